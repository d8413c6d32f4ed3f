import java.lang.reflect.InvocationTargetException;
import java.lang.reflect.Method;
import java.util.Arrays;
import java.util.Comparator;
import java.util.List;

/** What the tests of boundary cases share: each sentence of the document is a method, run and told on its own. */
abstract class Bounds {
    static final int BAD = -1, NOT = -2, FULL = -3, STATE = -5, VOID = -2000000000;
    static final int NOTHING_THERE = -11, OTHER_KIND = -12, NO_PLACE = -13, SIZE_BELOW_ZERO = -14;
    static final int LEAST = Integer.MIN_VALUE, MOST = Integer.MAX_VALUE;
    private static final int MOST_TOLD = 5;
    private int wrong;

    static List<Method> tests(Class<? extends Bounds> of) {
        return Arrays.stream(of.getDeclaredMethods())
            .filter(method -> method.isAnnotationPresent(Sentence.class))
            .sorted(Comparator.comparing(Method::getName))
            .toList();
    }

    /** Runs every test of the class; a machine's exception is a failed test, too. */
    final void runAll() {
        int failed = 0;
        List<Method> tests = tests(getClass());
        for (Method test : tests) {
            failed += holds(test) ? 0 : 1;
        }
        System.out.println(tests.size() - failed + " of " + tests.size() + " sentences hold");
        if (failed != 0 || tests.isEmpty()) {
            System.exit(1);
        }
    }

    private boolean holds(Method test) {
        wrong = 0;
        try {
            test.setAccessible(true);
            test.invoke(this);
        } catch (InvocationTargetException thrown) {
            wrong++;
            System.out.println("  thrown: " + thrown.getCause());
        } catch (IllegalAccessException closed) {
            throw new IllegalStateException(closed);
        }
        if (wrong != 0) {
            System.out.println("FAILED: " + test.getName() + ": " + wrong + " answers are not as due by \""
                + String.join("\", \"", test.getAnnotation(Sentence.class).value()) + "\"");
        }
        return wrong == 0;
    }

    final void due(long got, long want) {
        due("", got, want);
    }

    final void due(String call, long got, long want) {
        if (got == want) {
            return;
        }
        wrong++;
        if (wrong <= MOST_TOLD) {
            StackTraceElement at = Arrays.stream(new Throwable().getStackTrace())
                .filter(one -> one.getClassName().equals(getClass().getName())).findFirst().orElseThrow();
            System.out.println("  line " + at.getLineNumber() + ": " + call + " answered " + got + ", due is " + want);
        }
    }

    // ---- what many tests begin with

    /** LONG 150, THICK 3: KNOT 1 takes 12, so BROAD is b - 12 and THIN 112 - b; RIGHT at 63 alone. */
    static EndTooLong one() {
        EndTooLong x = new EndTooLong();
        x.tie(150, 3);
        return x;
    }

    /** A tie whose KNOTS take nothing: BROAD is b, THIN is LONG less 38 less b. */
    static EndTooLong bare(int length) {
        EndTooLong x = new EndTooLong();
        x.tie(length, 1);
        tell(x, "0");
        return x;
    }

    static int tell(EndTooLong x, String text) {
        for (int i = 0; i < text.length(); i++) {
            x.feed(text.charAt(i));
        }
        return x.law();
    }

    static void bytes(EndTooLong x, int shelf, int... values) {
        fill(x, shelf, 0, values);
    }

    static void shorts(EndTooLong x, int shelf, int... values) {
        fill(x, shelf, 1, values);
    }

    static void fill(EndTooLong x, int shelf, int sort, int... values) {
        x.row(shelf, sort, values.length);
        for (int i = 0; i < values.length; i++) {
            x.put(shelf, i, values[i]);
        }
    }

    static int[] outside(int least, int most) {
        return new int[] {least - 1, most + 1, LEAST, MOST};
    }
}
