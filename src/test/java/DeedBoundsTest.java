/** Section 4 of the document: mornings by draws, and what is done in deed, undone, and laid back. */
public final class DeedBoundsTest extends Bounds {
    private DeedBoundsTest() {
    }

    public static void main(String[] args) {
        new DeedBoundsTest().runAll();
    }

    // ---- DRAWN

    private static int next(int z) {
        return z * 1103515245 + 12345;
    }

    private static int drawnMore(int z) {
        return (z >>> 8) % 3 - 1;
    }

    /** A SEED whose first z is below 0 or not, and by which the KNOT takes so much more. */
    private static int seed(boolean isBelow, int more) {
        int seed = 0;
        while (next(seed) < 0 != isBelow || drawnMore(next(seed)) != more) {
            seed++;
        }
        return seed;
    }

    @Sentence({"DRAWN: n mornings (1 .. 50) of a tie in a KNOT from b on by a SHARE by a SEED",
        "DRAWN (nw: 10 n, and 0 tries, 1 mornings that never are). BAD."})
    void drawnMornings() {
        EndTooLong x = one();
        for (int nw : new int[] {0, 1, 2, 9, 12, 19, 22, 502, 509, 510, 511, 519, 1000, -1, -9, -10, LEAST, MOST}) {
            due("nw " + nw, x.drawn(1, 701, 5, nw), BAD);
        }
        // NEAR 9, from 70 on: RIGHT in the first try, whatever is drawn: 57 .. 59.
        x.mend(0, 8, 9);
        for (int n = 1; n <= 50; n++) {
            due(x.drawn(1, 701, 5, 10 * n), n);
            due(x.drawn(1, 701, 5, 10 * n + 1), 0);
        }
    }

    @Sentence("tries till it is RIGHT (60 at most each): all together; how many mornings it never is.")
    void sixtyAtMostEach() {
        EndTooLong never = new EndTooLong();
        never.tie(40, 3);
        for (int n : new int[] {1, 2, 49, 50}) {
            due(never.drawn(1, 701, 7, 10 * n), 60 * n);
            due(never.drawn(1, 701, 7, 10 * n + 1), n);
        }
        // 1 up each try, whatever is drawn, and RIGHT at 66 alone: from 7 on in the 60th try, from 6 on never.
        EndTooLong x = new EndTooLong();
        x.tie(104, 3);
        x.mend(0, 7, 10);
        tell(x, "b<57?b-9;b<66?b-5;56");
        for (int seed = -3; seed < 4; seed++) {
            due(x.drawn(0, 84, seed, 30), 177);
            due(x.drawn(0, 84, seed, 31), 0);
            due(x.drawn(0, 74, seed, 30), 180);
            due(x.drawn(0, 74, seed, 31), 0);
            due(x.drawn(0, 64, seed, 30), 180);
            due(x.drawn(0, 64, seed, 31), 3);
        }
    }

    @Sentence("z = z * 1103515245 + 12345 (an int; SEED at first) ahead of each try:")
    void seedsWrap() {
        EndTooLong x = one();
        x.mend(0, 8, 0);
        int[] seeds = {LEAST, LEAST + 1, -12345, -1, 0, 1, 2, 12345, 1 << 30, MOST - 1, MOST};
        for (int seed : seeds) {
            // RIGHT at once if and only if BROAD is 63 - 12 less what is drawn.
            for (int more = -1; more <= 1; more++) {
                x.mend(0, 7, 51 - more);
                x.mend(0, 0, 149);
                boolean isAtOnce = drawnMore(next(seed)) == more;
                due("SEED " + seed, x.drawn(1, 631, seed, 10) == 1 ? 1 : 0, isAtOnce ? 1 : 0);
            }
        }
    }

    /** One z for all tries of all mornings: told try by try, where only a draw of 0 is RIGHT and else 1 up or down. */
    @Sentence("ahead of each try: the KNOT takes (z >>> 8) % 3 less 1 more")
    void drawsGoOnThroughTheMornings() {
        EndTooLong x = one();
        x.mend(0, 8, 0);
        x.mend(0, 7, 51);
        for (int seed : new int[] {LEAST, -77, 0, 5, 1000, MOST}) {
            int z = seed;
            int all = 0;
            for (int n = 1; n <= 20; n++) {
                int b = 63;
                int tries = 0;
                boolean isRight = false;
                while (!isRight && tries < 60) {
                    z = next(z);
                    int broad = b - 12 - drawnMore(z);
                    int thin = 112 - b;
                    isRight = broad == 51 && thin >= 0 && thin < broad;
                    b += broad == 51 ? 1 : 51 - broad;
                    tries++;
                }
                all += tries;
                due("SEED " + seed, x.drawn(1, 631, seed, 10 * n), all);
            }
        }
    }

    @Sentence("the KNOT takes (z >>> 8) % 3 less 1 more than THE LAW gives in that try (0 at least)")
    void drawnTakesNoughtAtLeast() {
        EndTooLong x = bare(150);
        x.mend(0, 8, 0);
        x.mend(0, 7, 70);
        for (boolean isBelow : new boolean[] {false, true}) {
            // 0, and 1 less: BROAD 70 at 70, not 71; 0 and none more: 70; and 1 more: 69.
            due(x.drawn(0, 701, seed(isBelow, -1), 10), 1);
            due(x.drawn(0, 701, seed(isBelow, 0), 10), 1);
            due(x.drawn(0, 711, seed(isBelow, 1), 10), 1);
            due(x.drawn(0, 701, seed(isBelow, 1), 10) > 1 ? 1 : 0, 1);
            due(x.drawn(0, 711, seed(isBelow, -1), 10) > 1 ? 1 : 0, 1);
        }
        // 1 and 1 less is 0; 60 and 1 more is 61.
        tell(x, "1");
        due(x.drawn(0, 701, seed(true, -1), 10), 1);
        x.mend(0, 7, 50);
        tell(x, "60");
        due(x.drawn(0, 1111, seed(true, 1), 10), 1);
        due(x.drawn(0, 1101, seed(false, 1), 10) > 1 ? 1 : 0, 1);
        due(x.drawn(0, 1091, seed(false, -1), 10), 1);
    }

    // ---- TIE, UNTIE, LED

    @Sentence("TIE a tie in a KNOT at b: BROAD; it is WORN once more (99 at most)")
    void wornNinetyNineAtMost() {
        EndTooLong x = one();
        due(x.tieOn(1, 63), 51);
        due(x.of(0, 4), 1);
        // WORN counts from the next time on.
        x.mend(0, 4, 9);
        due(x.tieOn(1, 63), 51);
        due(x.tieOn(1, 63), 52);
        for (int worn = 97; worn <= 99; worn++) {
            x.mend(0, 4, worn);
            due(x.tieOn(1, 63), 51 + 9);
            due(x.of(0, 4), Math.min(99, worn + 1));
        }
        for (int i = 0; i < 3; i++) {
            due(x.tieOn(1, 63), 60);
            due(x.of(0, 4), 99);
        }
        due(x.of(0, 12), 9);
        due(x.led(0), 9);
    }

    @Sentence({"UNDO it (UNTIE): how often it was tied.", "UNTIE: how often it was tied (0 then). BAD."})
    void untiedIsNeverTied() {
        EndTooLong x = one();
        x.tie(150, 3);
        for (int tie : new int[] {-1, 2, 8, LEAST, MOST}) {
            due(x.untie(tie), BAD);
        }
        due(x.led(2), 0);
        // Never tied: 0, and led as one undone.
        due(x.untie(0), 0);
        due(x.led(2), 1);
        x.tieOn(1, 63);
        x.tieOn(2, 63);
        x.tieOn(11, 63);
        due(x.untie(0), 2);
        due(x.of(0, 12), 0);
        due(x.of(1, 12), 1);
        due(x.of(0, 4), 2);
        due(x.untie(0), 0);
        due(x.led(2), 3);
        due(x.led(0), 3);
        x.tieOn(1, 63);
        due(x.of(0, 12), 1);
        due(x.untie(0), 1);
    }

    @Sentence({"LED: ties tied, RIGHT ones, undone ones, BROAD of the latest.",
        "LED: tied (what 0), RIGHT ones (1), undone ones (2), BROAD of the latest (3; VOID: none). BAD."})
    void ledFromNone() {
        EndTooLong x = one();
        for (int what : outside(0, 3)) {
            due(x.led(what), BAD);
        }
        due(x.led(0), 0);
        due(x.led(1), 0);
        due(x.led(2), 0);
        due(x.led(3), VOID);
        // What is refused, and what is undone, is none that was tied.
        x.tieOn(1, 201);
        x.tieOn(10, 63);
        x.untie(0);
        due(x.led(0), 0);
        due(x.led(3), VOID);
        int[] b = {62, 63, 64, 0};
        int[] right = {0, 1, 1, 1};
        for (int i = 0; i < b.length; i++) {
            x.tieOn(1, b[i]);
            due(x.led(0), i + 1);
            due(x.led(1), right[i]);
            due(x.led(3), b[i] - 12);
        }
        due(x.led(2), 1);
    }

    // ---- CHANGES

    private static final int[] FIRST = {100, 2, 1, 5, 7, 1, 30, 20, 2, 3, 2, 9};

    /** A tie and a TIER, and one change of each of the twelve numbers. */
    private static EndTooLong mended() {
        EndTooLong x = one();
        x.tier(11, 63);
        for (int what = 0; what <= 11; what++) {
            x.mend(what == 5 ? 1 : 0, what, FIRST[what]);
        }
        return x;
    }

    @Sentence("CHANGES (all numbers of mend(); telling the same number is none) can be UNDONE, the latest first, and DONE AGAIN")
    void allNumbersAreChanges() {
        int[] was = {150, 3, 0, 200, 0, 3, 38, 50, 1, 1, 1, 63};
        EndTooLong x = mended();
        due(x.count(3), 12);
        for (int what = 0; what <= 11; what++) {
            int number = what == 5 ? 1 : 0;
            due(x.mend(number, what, FIRST[what]), FIRST[what]);
            due("the same of what " + what, x.count(3), 12);
        }
        for (int what = 11; what >= 0; what--) {
            int number = what == 5 ? 1 : 0;
            due(x.of(number, what), FIRST[what]);
            due(x.undo(), what);
            due("undone what " + what, x.of(number, what), was[what]);
            due(x.count(3), what);
            // The same again is no change: what was undone is done again all the same.
            due(x.mend(number, what, was[what]), was[what]);
            due(x.redo(), 11 - what);
            due("done again what " + what, x.of(number, what), FIRST[what]);
            due(x.undo(), what);
        }
        due(x.undo(), STATE);
        for (int what = 0; what <= 11; what++) {
            due(x.redo(), 11 - what);
            due(x.of(what == 5 ? 1 : 0, what), FIRST[what]);
            due(x.count(3), what + 1);
        }
        due(x.redo(), STATE);
    }

    @Sentence("(as long as no other came behind)")
    void doneAgainAsLongAsNoOtherCame() {
        EndTooLong x = mended();
        for (int i = 0; i < 4; i++) {
            x.undo();
        }
        // What is refused, or the same, is no other one.
        x.mend(0, 0, 39);
        x.mend(1, 0, 50);
        x.mend(0, 12, 1);
        x.mend(0, 0, FIRST[0]);
        due(x.redo(), 3);
        x.mend(0, 8, 9);
        due(x.redo(), STATE);
        due(x.count(3), 10);
        due(x.undo(), 9);
        due(x.of(0, 8), 2);
        due(x.redo(), 0);
        due(x.of(0, 8), 9);
        due(x.redo(), STATE);
    }

    @Sentence("40 at most are kept;")
    void fortyAtMostAreKept() {
        EndTooLong x = one();
        for (int i = 1; i <= 39; i++) {
            x.mend(0, 4, i);
            due(x.count(3), i);
        }
        for (int i = 40; i <= 43; i++) {
            x.mend(0, 4, i);
            due(x.count(3), 40);
        }
        for (int i = 39; i >= 0; i--) {
            due(x.undo(), i);
            due(x.of(0, 4), i + 3);
        }
        due(x.undo(), STATE);
        due(x.of(0, 4), 3);
        for (int i = 39; i >= 0; i--) {
            due(x.redo(), i);
            due(x.of(0, 4), 43 - i);
        }
        due(x.redo(), STATE);
        // Undone ones count no more when another comes: 30 and 1, and then up to 40 again.
        for (int i = 0; i < 10; i++) {
            x.undo();
        }
        x.mend(0, 4, 90);
        due(x.count(3), 31);
        due(x.redo(), STATE);
        for (int i = 0; i < 12; i++) {
            x.mend(0, 0, 100 + i);
        }
        due(x.count(3), 40);
        for (int i = 0; i < 12; i++) {
            x.undo();
        }
        due(x.of(0, 0), 150);
        due(x.of(0, 4), 90);
        due(x.undo(), 27);
        due(x.of(0, 4), 33);
    }

    @Sentence("UNDONE, the latest first, and DONE AGAIN (as long as no other came behind); 40 at most are kept;")
    void fortyOfUnlikeNumbersAreKept() {
        EndTooLong x = new EndTooLong();
        for (int tie = 0; tie < 8; tie++) {
            x.tie(150, 3);
        }
        // LONG, SLIPS, STAIN, WORN of each of eight ties, all but the last one twice; the first 23 are kept no more.
        for (int i = 0; i < 63; i++) {
            due("change " + i, x.mend(i % 8, FOUR[i / 8 % 4], became(i)), was(i));
        }
        for (int i = 62; i >= 23; i--) {
            due(x.of(i % 8, FOUR[i / 8 % 4]), became(i));
            due(x.undo(), i - 23);
            due("undone " + i, x.of(i % 8, FOUR[i / 8 % 4]), was(i));
        }
        due(x.undo(), STATE);
        for (int i = 0; i < 23; i++) {
            due("kept no more: " + i, x.of(i % 8, FOUR[i / 8 % 4]), became(i));
        }
        for (int i = 23; i < 63; i++) {
            due(x.redo(), 62 - i);
            due("done again " + i, x.of(i % 8, FOUR[i / 8 % 4]), became(i));
        }
        due(x.redo(), STATE);
    }

    private static final int[] FOUR = {0, 2, 3, 4};

    private static int became(int change) {
        return (change / 8 % 4 == 0 ? 101 : 1) + change / 32;
    }

    private static int was(int change) {
        int[] first = {150, 0, 200, 0};
        return change < 32 ? first[change / 8] : became(change - 32);
    }

    @Sentence("deeds are none.")
    void deedsAreNoChanges() {
        EndTooLong x = mended();
        x.undo();
        due(x.count(3), 11);
        x.tieOn(1, 63);
        x.untie(0);
        x.image();
        x.tieOn(1, 63);
        x.back();
        x.tie(100, 1);
        x.tier(11, 0);
        tell(x, "7");
        tell(x, "x");
        x.body(0);
        x.act(0, 0, 1);
        x.keep(1, 0);
        shorts(x, 0, 100, 1, 0);
        x.ties(0, 0, 1);
        x.shift(0, 0, 0, 1, 2);
        due(x.count(3), 11);
        due(x.redo(), 0);
        due(x.of(0, 11), FIRST[11]);
        // WORN by deed comes between; undone, it is what it was ahead of the change.
        x.mend(0, 4, 50);
        x.tieOn(1, 9);
        due(x.of(0, 4), 51);
        due(x.undo(), 12);
        due(x.of(0, 4), 8);
        due(x.redo(), 0);
        due(x.of(0, 4), 50);
    }

    @Sentence("UNDONE: how many may still be. STATE: none.")
    void noneToBeUndone() {
        EndTooLong x = one();
        due(x.undo(), STATE);
        due(x.count(3), 0);
        // What is the same, or refused, is none.
        x.mend(0, 0, 150);
        x.mend(0, 0, 39);
        due(x.undo(), STATE);
        x.mend(0, 0, 100);
        x.mend(0, 0, 101);
        due(x.undo(), 1);
        due(x.undo(), 0);
        due(x.undo(), STATE);
        due(x.of(0, 0), 150);
        due(x.count(3), 0);
        due(x.redo(), 1);
        due(x.undo(), 0);
        due(x.undo(), STATE);
    }

    @Sentence("DONE AGAIN: how many may still be. STATE: none.")
    void noneToBeDoneAgain() {
        EndTooLong x = one();
        due(x.redo(), STATE);
        due(x.undo(), STATE);
        due(x.redo(), STATE);
        x.mend(0, 0, 100);
        due(x.redo(), STATE);
        due(x.of(0, 0), 100);
        due(x.undo(), 0);
        due(x.redo(), 0);
        due(x.redo(), STATE);
        due(x.of(0, 0), 100);
        due(x.count(3), 1);
        // All forty.
        for (int i = 1; i <= 39; i++) {
            x.mend(0, 4, i);
        }
        due(x.redo(), STATE);
        for (int i = 39; i >= 0; i--) {
            due(x.undo(), i);
        }
        for (int i = 39; i >= 0; i--) {
            due(x.redo(), i);
        }
        due(x.redo(), STATE);
        due(x.of(0, 4), 39);
    }

    // ---- AN IMAGE

    @Sentence("AN IMAGE keeps WORN of all, how often each was tied, what LED tells.")
    void imageKeepsWornAndTied() {
        EndTooLong x = new EndTooLong();
        for (int tie = 0; tie < 8; tie++) {
            x.tie(150, 3);
            x.mend(tie, 4, 10 * tie);
            for (int i = 0; i < tie; i++) {
                x.tieOn(10 * tie + 1, 60);
            }
        }
        x.untie(7);
        due(x.image(), 28);
        for (int tie = 0; tie < 8; tie++) {
            x.tieOn(10 * tie + 1, 0);
            x.mend(tie, 0, 160);
            x.mend(tie, 4, 99);
            x.untie(tie);
        }
        x.mend(0, 6, 40);
        due(x.back(), 28);
        for (int tie = 0; tie < 8; tie++) {
            due(x.of(tie, 4), 11 * tie);
            due(x.of(tie, 12), tie == 7 ? 0 : tie);
            due(x.of(tie, 0), 160);
        }
        due(x.of(0, 6), 40);
        due(x.led(0), 28);
        due(x.led(1), 0);
        due(x.led(2), 1);
        due(x.led(3), 60 - 12 + 7);
        // It is no change, and those from ahead of it can be undone as before.
        due(x.count(3), 7 + 8 + 8 + 1);
    }

    @Sentence({"AN IMAGE is kept: how many were tied.",
        "It is laid back (TIES that came since: WORN 0, never tied): how many were tied. STATE: there is none."})
    void laidBackForTiesThatCameSince() {
        EndTooLong x = new EndTooLong();
        due(x.back(), STATE);
        x.tie(150, 3);
        x.tieOn(1, 63);
        due(x.back(), STATE);
        due(x.led(0), 1);
        due(x.of(0, 12), 1);
        EndTooLong y = new EndTooLong();
        due(y.image(), 0);
        y.tie(150, 3);
        y.mend(0, 4, 7);
        y.tieOn(1, 63);
        y.untie(0);
        y.tieOn(1, 63);
        due(y.back(), 0);
        due(y.of(0, 4), 0);
        due(y.of(0, 12), 0);
        due(y.count(0), 1);
        due(y.led(1), 0);
        due(y.led(2), 0);
        due(y.led(3), VOID);
        // It stays, to be laid back again, till another one comes.
        y.tieOn(1, 63);
        y.tieOn(1, 63);
        due(y.back(), 0);
        due(y.of(0, 12), 0);
        y.tieOn(1, 63);
        due(y.image(), 1);
        y.tieOn(1, 63);
        due(y.back(), 1);
        due(y.of(0, 12), 1);
        due(y.of(0, 4), 1);
        due(y.led(1), 1);
        due(y.led(3), 51);
    }
}
