import java.lang.reflect.Method;
import java.util.List;
import java.util.regex.Matcher;
import java.util.regex.Pattern;

/** Every word of the document that names a boundary case is quoted by a test of its own. */
public final class QuotedTest {
    private static final List<Class<? extends Bounds>> TESTS = List.of(
        TiesBoundsTest.class, LawBoundsTest.class, ThoughtBoundsTest.class, TiersBoundsTest.class,
        DeedBoundsTest.class, TurnsBoundsTest.class, PromiseBoundsTest.class, UnchangedBoundsTest.class);
    private static final String FROM = "1 TIES 0 .. 7";
    private static final String TO = "## Not promised";
    /** What a sentence has in it that names a bound, a refusal, something empty, full, cut, or wrapped. */
    private static final Pattern BOUNDARY = Pattern.compile(
        "\\d+ \\.\\. \\d+|at most|at least|at first|held within|holds nothing|parted by|one or more|toward 0|by 0|wrap|\\bcut\\b"
        + "|too early|\\bnone\\b|below 0|of like ones|lowest bits|No blanks|open at once|\\bNOT\\b|\\bBAD\\b|\\bFULL\\b|\\bSTATE\\b"
        + "|\\bVOID\\b|-1[1-4]|no more than|nothing|as far as|as near as|without a break|are kept|is missing|no such");

    private QuotedTest() {
    }

    public static void main(String[] args) {
        boolean[] isQuoted = new boolean[Document.TEXT.length()];
        int wrong = 0;
        for (Class<? extends Bounds> of : TESTS) {
            for (Method test : Bounds.tests(of)) {
                for (String quote : test.getAnnotation(Sentence.class).value()) {
                    wrong += mark(quote, isQuoted) ? 0 : 1;
                }
            }
        }
        wrong += unquoted(isQuoted);
        System.out.println(wrong == 0 ? "each boundary is quoted" : wrong + " wrong");
        if (wrong != 0) {
            System.exit(1);
        }
    }

    private static boolean mark(String quote, boolean[] isQuoted) {
        int at = Document.placeOf(quote);
        if (at < 0) {
            System.out.println("not there, or not once: " + quote);
            return false;
        }
        for (int i = 0; i < Document.plain(quote).length(); i++) {
            isQuoted[at + i] = true;
        }
        return true;
    }

    private static int unquoted(boolean[] isQuoted) {
        int from = Document.TEXT.indexOf(FROM);
        int to = Document.TEXT.indexOf(TO);
        if (from < 0 || to < from) {
            System.out.println("the document's Terms and Promises are not where they were");
            return 1;
        }
        int wrong = 0;
        Matcher found = BOUNDARY.matcher(Document.TEXT).region(from, to);
        while (found.find()) {
            for (int i = found.start(); i < found.end(); i++) {
                if (!isQuoted[i]) {
                    wrong++;
                    System.out.println("no test quotes \"" + found.group() + "\" in: .. "
                        + Document.TEXT.substring(Math.max(from, found.start() - 60), Math.min(to, found.end() + 40)) + " ..");
                    break;
                }
            }
        }
        return wrong;
    }
}
