import java.util.ArrayList;
import java.util.Collections;
import java.util.List;
import java.util.Random;

/** Runs of 512 drawn calls (always the same ones) on EndTooLong and on Model: every answer must be the same. */
public final class RandomRunsTest {
    private static final int RUNS = 250;
    private static final int CALLS = 512;
    private static final int[] ODD = {
        -2147483648, -2147483647, -101, -11, -10, -2, -1, 60, 61, 120, 200, 201, 255, 256, 2004, 2005, 9999, 10000,
        2147483646, 2147483647,
    };
    /** Each call with a letter for each argument; named more often, it comes more often. */
    private static final String[] FACE = {
        "tie LT", "tie LT", "ties hpc", "ties hpc", "tier Pb", "tier Pb", "mend nwv", "mend nwv", "mend nwv", "of nw",
        "of nw", "feed f", "law", "hangs kbc", "where kc", "knot tc", "correct kSc", "share kb", "bow kc", "stain kb",
        "hide k", "fit kc", "wear kb", "takes tk", "six htp", "six htp", "order htp", "order htp", "taxi htm",
        "taxi htm", "oneMore htt", "oneMore htt", "judge hkS", "which htS", "began hkc", "thickness hkS", "drawn kSxN",
        "tieOn kb", "tieOn kb", "untie t", "led c", "led c", "image", "back", "undo", "undo", "redo", "redo", "body K",
        "act Bcx", "act Bcx", "trace p", "keep hB", "row hsp", "put hpe", "put hpe", "element hp", "shift hphpp",
        "taken hK", "count c",
    };
    private final Random random;
    private EndTooLong x;
    private Model model;
    private int wrong;
    private int run;
    private int calls;

    private RandomRunsTest(long seed) {
        random = new Random(seed);
    }

    public static void main(String[] args) {
        RandomRunsTest test = new RandomRunsTest(20261118L);
        for (test.run = 1; test.run <= RUNS && test.wrong < 20; test.run++) {
            test.oneRun();
        }
        System.out.println(test.wrong == 0 ? "all drawn runs are as due" : test.wrong + " answers are not as due");
        if (test.wrong != 0) {
            System.exit(1);
        }
    }

    private void oneRun() {
        x = new EndTooLong();
        model = new Model();
        calls = 0;
        int left = CALLS;
        if (run % 10 != 0) {
            left -= prepare();
        }
        while (left > 0 && wrong < 20) {
            int kind = random.nextInt(60);
            if (kind == 0) {
                left -= tellLaw();
            } else if (kind == 1) {
                left -= tellTries();
            } else if (kind == 2) {
                left -= tellSix();
            } else if (kind == 3) {
                left -= tellTies();
            } else {
                left -= drawnCall();
            }
        }
    }

    /** A row of calls may be drawn longer than what is left of the run: behind the last call there is none. */
    private int both(String name, long... a) {
        if (calls >= CALLS) {
            return 1;
        }
        calls++;
        long got = Calls.call(x, name, a);
        long due = model.call(name, a);
        if (got != due) {
            wrong++;
            System.out.println("run " + run + ": " + Calls.shown(name, a) + " answered " + got + ", due is " + due);
        }
        return 1;
    }

    private int prepare() {
        int calls = 0;
        for (int i = random.nextInt(9); i > 0; i--) {
            calls += both("tie", 110 + random.nextInt(60), 1 + random.nextInt(9));
        }
        for (int i = random.nextInt(6); i > 0; i--) {
            calls += both("tier", 11 + 10 * random.nextInt(9) + random.nextInt(4), random.nextInt(201));
        }
        for (int i = random.nextInt(10); i > 0; i--) {
            calls += both("body", random.nextInt(8));
        }
        calls += both("mend", 0, 8, random.nextInt(10));
        return calls;
    }

    private int tellLaw() {
        String text = LawTexts.drawn(random);
        int calls = 0;
        for (int i = 0; i < text.length(); i++) {
            calls += both("feed", text.charAt(i));
        }
        return calls + both("law");
    }

    /** A row of tries that may well be so: what some tie does from some b on. */
    private int tellTries() {
        int n = random.nextInt(8);
        int shelf = random.nextInt(6);
        int share = 1 + random.nextInt(4);
        int tk = 10 * random.nextInt(4) + random.nextInt(5);
        int b = random.nextInt(201);
        int calls = both("row", shelf, 1, n);
        int from = b;
        for (int i = 0; i < n; i++) {
            long broad = model.call("hangs", new long[] {tk, b, 0});
            long belt = model.call("of", new long[] {0, 7});
            if (broad == Model.VOID) {
                return calls;
            }
            calls += both("put", shelf, i, random.nextInt(40) == 0 ? 1 : broad);
            long by = (belt - broad) / share;
            b = (int) Math.max(0, Math.min(200, b + (by != 0 ? by : broad > belt ? -1 : 1)));
        }
        calls += both("judge", shelf, tk, 10 * from + share);
        calls += both("which", shelf, tk / 10, 10 * from + share);
        calls += both("began", shelf, tk, share);
        return calls + both("thickness", shelf, tk, 10 * from + share);
    }

    /** A row of ties in some order; one that is not there or comes again, which ends it, is rare enough for long ones. */
    private int tellSix() {
        List<Integer> order = new ArrayList<>(List.of(0, 1, 2, 3, 4, 5, 6, 7));
        order.removeIf(tie -> tie >= model.call("count", new long[] {0}));
        Collections.shuffle(order, random);
        order.add(8);
        int n = random.nextInt(9);
        int shelf = random.nextInt(6);
        int knot = random.nextInt(5);
        int calls = both("row", shelf, 0, n);
        for (int i = 0; i < n; i++) {
            int next = order.get(Math.min(i, order.size() - 1));
            calls += both("put", shelf, i, random.nextInt(10) == 0 ? random.nextInt(11) - 1 : next);
        }
        for (int k = -1; k < 7; k++) {
            calls += both("six", shelf, knot, k) + both("order", shelf, knot, k);
        }
        calls += both("taxi", shelf, knot, random.nextInt(200));
        return calls + both("oneMore", shelf, knot, random.nextInt(3));
    }

    private int tellTies() {
        int n = random.nextInt(14);
        int shelf = random.nextInt(6);
        int calls = both("row", shelf, 1, n);
        for (int i = 0; i < n; i++) {
            int[] so = {30 + random.nextInt(180), random.nextInt(11), random.nextInt(12) - 1};
            calls += both("put", shelf, i, so[i % 3]);
        }
        return calls + both("ties", shelf, 3 * random.nextInt(2), 1 + random.nextInt(8));
    }

    private int drawnCall() {
        String[] parts = FACE[random.nextInt(FACE.length)].split(" ");
        String letters = parts.length > 1 ? parts[1] : "";
        long[] a = new long[letters.length()];
        for (int i = 0; i < a.length; i++) {
            a[i] = random.nextInt(40) == 0 ? ODD[random.nextInt(ODD.length)] : argument(letters.charAt(i));
        }
        return both(parts[0], a);
    }

    private long argument(char letter) {
        return switch (letter) {
            case 'L' -> 38 + random.nextInt(165);
            case 'T' -> random.nextInt(11);
            case 'h', 'c', 't', 'n', 's' -> random.nextInt(7) - random.nextInt(8) / 7;
            case 'p' -> random.nextInt(9) - 1;
            case 'P' -> random.nextInt(101);
            case 'b' -> random.nextInt(3) == 0 ? random.nextInt(203) - 1 : 40 + random.nextInt(50);
            case 'w' -> random.nextInt(14);
            case 'v' -> random.nextInt(3) == 0 ? random.nextInt(210) - 2 : random.nextInt(12);
            case 'f' -> random.nextInt(257);
            case 'k' -> 10 * random.nextInt(8) + random.nextInt(5);
            case 'S' -> 10 * random.nextInt(202) + random.nextInt(6);
            case 'm' -> random.nextInt(300);
            case 'N' -> random.nextInt(520);
            case 'K' -> random.nextInt(9) - random.nextInt(9) / 8;
            case 'B' -> random.nextInt(20) - 1;
            case 'e' -> random.nextBoolean() ? random.nextInt(200) : random.nextLong();
            default -> random.nextInt();
        };
    }
}
