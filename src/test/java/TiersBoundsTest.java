/** Section 3 of the document: who ties, six who dress, and tries read back. */
public final class TiersBoundsTest extends Bounds {
    private static final int[] NO_ELEMENTS = {};

    private TiersBoundsTest() {
    }

    public static void main(String[] args) {
        new TiersBoundsTest().runAll();
    }

    /** As many ties that take one try in KNOT 1 by b = 63. */
    private static EndTooLong alike(int ties) {
        EndTooLong x = new EndTooLong();
        for (int i = 0; i < ties; i++) {
            x.tie(150, 3);
        }
        return x;
    }

    private void who(EndTooLong x, int knot, int... tiers) {
        for (int k = 0; k < tiers.length; k++) {
            due("who ties " + k, x.six(0, knot, k), tiers[k]);
        }
        due("who ties " + tiers.length, x.six(0, knot, tiers.length), NOT);
    }

    private void ordered(EndTooLong x, int knot, int... ties) {
        for (int k = 0; k < ties.length; k++) {
            due("tie " + k, x.order(0, knot, k), ties[k]);
        }
        due("tie " + ties.length, x.order(0, knot, ties.length), NOT);
    }

    // ---- TIERS

    @Sentence("TIERS 0 .. 5 (PEOPLE who tie), as they come:")
    void tiersAreSix() {
        EndTooLong x = one();
        for (int tier = 0; tier < 6; tier++) {
            due(x.of(tier, 9), BAD);
            due(x.takes(tier, 1), BAD);
            due(x.tier(11 + 10 * tier, 63 + tier), tier);
            due(x.of(tier, 9), tier + 1);
            due(x.of(tier, 10), 1);
            due(x.of(tier, 11), 63 + tier);
        }
        due(x.takes(5, 1) > 0 ? 1 : 0, 1);
        due(x.tier(11, 0), FULL);
        due(x.count(1), 6);
        for (int tier : new int[] {-1, 6, 8, LEAST, MOST}) {
            due(x.of(tier, 9), BAD);
            due(x.mend(tier, 9, 1), BAD);
            due(x.takes(tier, 1), BAD);
        }
    }

    private void holdsWithin(EndTooLong x, int what, int least, int most) {
        int was = x.of(1, what);
        for (int v : outside(least, most)) {
            due("mend to " + v, x.mend(1, what, v), BAD);
            due(x.of(1, what), was);
        }
        due(x.mend(1, what, most), was);
        due(x.mend(1, what, least), most);
        due(x.of(1, what), least);
    }

    @Sentence("PACE (1 .. 9 minutes a try)")
    void paceIsWithin() {
        EndTooLong x = one();
        for (int ps : new int[] {1, 4, 9, 101, 104, -11, LEAST, MOST}) {
            due("ps " + ps, x.tier(ps, 63), BAD);
        }
        due(x.tier(11, 63), 0);
        due(x.tier(91, 63), 1);
        due(x.takes(0, 1), 1);
        due(x.takes(1, 1), 9);
        holdsWithin(x, 9, 1, 9);
        due(x.takes(1, 1), 1);
        due(x.of(0, 9), 1);
    }

    @Sentence("SHARE, BEGINS (0 .. 200).")
    void shareAndBeginsAreWithin() {
        EndTooLong x = one();
        for (int ps : new int[] {10, 15, 19, 90, 95, 99}) {
            due("ps " + ps, x.tier(ps, 63), BAD);
        }
        for (int b : outside(0, 200)) {
            due(x.tier(11, b), BAD);
        }
        due(x.count(1), 0);
        due(x.tier(11, 0), 0);
        due(x.tier(94, 200), 1);
        due(x.of(0, 10), 1);
        due(x.of(0, 11), 0);
        due(x.of(1, 10), 4);
        due(x.of(1, 11), 200);
        holdsWithin(x, 10, 1, 4);
        holdsWithin(x, 11, 0, 200);
        due(x.of(0, 10), 1);
        due(x.of(0, 11), 0);
    }

    @Sentence("How long one takes for a tie in a KNOT: PACE times the tries by CORRECT (NOT: 60 times).")
    void sixtyTimesIfNever() {
        EndTooLong x = one();
        x.tier(11, 63);
        x.tier(91, 63);
        x.tier(51, 70);
        due(x.takes(0, 1), 1);
        due(x.takes(1, 1), 9);
        due(x.takes(2, 1), 5 * 3);
        // It never hangs right in KNOT 0.
        due(x.takes(0, 0), 60);
        due(x.takes(1, 0), 540);
        due(x.takes(2, 0), 300);
        // In the 60th try, and not in it: 60 times both.
        x.mend(0, 7, 10);
        x.mend(0, 8, 0);
        x.mend(0, 0, 107);
        tell(x, "b<69?b-9;59");
        int[] begins = {69, 68, 11, 10, 9};
        int[] tries = {1, 2, 59, 60, 60};
        for (int i = 0; i < begins.length; i++) {
            x.mend(1, 11, begins[i]);
            due(x.takes(1, 1), 9 * tries[i]);
        }
    }

    // ---- SIX

    /** How many elements come ahead of the first that names none of eight ties, or one again. */
    private static int tiesOf(int[] row) {
        boolean[] named = new boolean[8];
        for (int i = 0; i < row.length; i++) {
            if (row[i] < 0 || row[i] > 7 || named[row[i]]) {
                return i;
            }
            named[row[i]] = true;
        }
        return row.length;
    }

    @Sentence("ties (as far as such that are there, each once; 6 at most), each in one KNOT")
    void rowOfTiesEnds() {
        EndTooLong x = alike(8);
        x.tier(21, 63);
        bytes(x, 0, NO_ELEMENTS);
        who(x, 1);
        due(x.six(0, 1, -1), 0);
        bytes(x, 0, 3);
        who(x, 1, 0);
        due(x.six(0, 1, -1), 2);
        // What is no tie, or one again, ends it, at whichever place.
        for (int end : new int[] {8, 127, 128, 200, 255, -1, -128, 7, 6, 0}) {
            EndTooLong y = alike(8);
            y.tier(21, 63);
            for (int at = 0; at <= 4; at++) {
                int[] row = {7, 6, 5, 4, 3};
                row[at] = end;
                bytes(y, 0, row);
                int many = tiesOf(row);
                due("row with " + end + " at " + at, y.six(0, 1, -1), 2 * many);
                due(y.six(0, 1, many), NOT);
                due(y.taxi(0, 1, 9999), many);
                due(y.order(0, 1, -1), 2 * many);
                due(y.oneMore(0, 1, 0), 2 * many - 2 * ((many + 1) / 2));
            }
        }
        // A seventh and an eighth are not of it, and take no minute.
        for (int n = 6; n <= 8; n++) {
            x.row(0, 0, n);
            for (int i = 0; i < n; i++) {
                x.put(0, i, i);
            }
            due(x.six(0, 1, -1), 12);
            who(x, 1, 0, 0, 0, 0, 0, 0);
            due(x.taxi(0, 1, 9999), 6);
            due(x.order(0, 1, -1), STATE);
            due(x.oneMore(0, 1, 0), 6);
        }
        // None: the first one is not there.
        bytes(x, 0, 9, 0, 1);
        due(x.six(0, 1, -1), 0);
        due(x.order(0, 1, -1), 0);
        due(x.taxi(0, 1, 9999), 0);
        due(x.oneMore(0, 1, 0), 0);
    }

    @Sentence("in the order of the ROW the next one goes to who is free first (of like ones the least): when all are done;")
    void freeFirstOfLikeOnesTheLeast() {
        EndTooLong x = alike(6);
        for (int i = 0; i < 3; i++) {
            x.tier(21, 63);
        }
        bytes(x, 0, 0, 1, 2, 3, 4, 5);
        who(x, 1, 0, 1, 2, 0, 1, 2);
        due(x.six(0, 1, -1), 4);
        // TIER 1 by 1 minute: free at 1 and, like TIER 0, at 2.
        x.mend(1, 9, 1);
        who(x, 1, 0, 1, 2, 1, 0, 1);
        due(x.six(0, 1, -1), 4);
        x.mend(2, 9, 9);
        who(x, 1, 0, 1, 2, 1, 0, 1);
        due(x.six(0, 1, -1), 9);
        // Six TIERS for six ties: each has one.
        for (int i = 3; i < 6; i++) {
            x.tier(11, 63);
        }
        who(x, 1, 0, 1, 2, 3, 4, 5);
        due(x.six(0, 1, -1), 9);
    }

    @Sentence({"who ties the k-th; NOT: no TIERS.",
        "SIX in a KNOT: when all are done (k -1; 0: none), who ties the k-th. NOT: no TIERS, or there are not as many."})
    void sixNotWithoutTiers() {
        EndTooLong x = alike(2);
        bytes(x, 0, 0, 1);
        for (int k : new int[] {-1, 0, 1, 2, 6, MOST}) {
            due(x.six(0, 1, k), NOT);
        }
        x.tier(31, 63);
        due(x.six(0, 1, -1), 6);
        who(x, 1, 0, 0);
        for (int k : new int[] {2, 5, 6, 7, 60, MOST}) {
            due(x.six(0, 1, k), NOT);
        }
        for (int k : new int[] {-2, -3, LEAST}) {
            due(x.six(0, 1, k), BAD);
        }
        bytes(x, 0, NO_ELEMENTS);
        due(x.six(0, 1, -1), 0);
        due(x.six(0, 1, 0), NOT);
    }

    // ---- ORDER, TAXI, ONE MORE

    @Sentence({"ORDER: of all orders of the ties of a ROW that in which it is done first (5 ties at most, else STATE;",
        "ORDER: when (k -1), the k-th tie. STATE; NOT likewise."})
    void orderOfFiveAtMost() {
        EndTooLong x = alike(6);
        for (int n = 0; n <= 6; n++) {
            x.row(0, 0, n);
            for (int i = 0; i < n; i++) {
                x.put(0, i, i);
            }
            // No TIERS: STATE is named ahead of NOT.
            for (int k : new int[] {-1, 0, 5, MOST}) {
                due(n + " ties, no TIERS", x.order(0, 1, k), n == 6 ? STATE : NOT);
            }
            due(x.order(0, 1, -2), BAD);
        }
        x.tier(21, 63);
        for (int n = 0; n <= 6; n++) {
            x.row(0, 0, n);
            for (int i = 0; i < n; i++) {
                x.put(0, i, 5 - i);
            }
            due(x.order(0, 1, -1), n == 6 ? STATE : 2 * n);
            for (int k = 0; k <= 6; k++) {
                due(x.order(0, 1, k), n == 6 ? STATE : k < n ? 5 - k : NOT);
            }
            due(x.order(0, 1, MOST), n == 6 ? STATE : NOT);
            due(x.order(0, 1, LEAST), BAD);
        }
        // Five, as the sixth is none, or one again.
        bytes(x, 0, 0, 1, 2, 3, 4, 6);
        due(x.order(0, 1, -1), 10);
        bytes(x, 0, 0, 1, 2, 3, 4, 0);
        due(x.order(0, 1, -1), 10);
    }

    @Sentence("of like ones the first by their places): when; the k-th tie.")
    void orderOfLikeOnesTheFirst() {
        EndTooLong x = alike(5);
        x.tier(11, 63);
        x.tier(11, 63);
        // All orders are alike: that of the ROW, whatever the numbers of its ties.
        bytes(x, 0, 3, 1, 4, 0, 2);
        due(x.order(0, 1, -1), 3);
        ordered(x, 1, 3, 1, 4, 0, 2);
        // One of 60 minutes has to be begun with; ahead of it comes the first by its place.
        x.mend(4, 0, 40);
        bytes(x, 0, 2, 0, 4);
        due(x.six(0, 1, -1), 61);
        due(x.order(0, 1, -1), 60);
        ordered(x, 1, 2, 4, 0);
        bytes(x, 0, 4, 2, 0);
        ordered(x, 1, 4, 2, 0);
        bytes(x, 0, 0, 1, 2, 3, 4);
        due(x.order(0, 1, -1), 60);
        ordered(x, 1, 0, 4, 1, 2, 3);
    }

    /** Each of the 120 orders of five ties is the best one once: tie after tie to the TIER that has it right at once. */
    @Sentence("of all orders of the ties of a ROW that in which it is done first (5 ties at most")
    void eachOfAllOrdersIsTried() {
        int[] row = {3, 0, 4, 1, 2};
        for (int code = 0; code < 5 * 5 * 5 * 5 * 5; code++) {
            int[] order = {code / 625, code / 125 % 5, code / 25 % 5, code / 5 % 5, code % 5};
            if (java.util.Arrays.stream(order).distinct().count() == 5) {
                onlyBest(row, order);
            }
        }
    }

    private void onlyBest(int[] row, int[] order) {
        EndTooLong x = new EndTooLong();
        for (int thick = 1; thick <= 5; thick++) {
            x.tie(120, thick);
        }
        x.mend(0, 8, 0);
        // A tie of THICK t is RIGHT at 50 + t alone.
        tell(x, "b=50+t?t;60");
        for (int tie : order) {
            x.tier(11, 50 + tie + 1);
        }
        bytes(x, 0, row);
        due(x.order(0, 0, -1), 1);
        ordered(x, 0, order);
    }

    @Sentence("of all orders of the ties of a ROW")
    void orderIsSoughtToTheEnd() {
        EndTooLong x = new EndTooLong();
        // In KNOT 0, by b = 55 and RIGHT at 50 + t alone, tie i takes t tries.
        for (int thick : new int[] {1, 2, 3, 4, 5}) {
            x.tie(120, 6 - thick);
        }
        x.mend(0, 8, 0);
        tell(x, "t");
        x.tier(14, 55);
        x.tier(94, 55);
        for (int i = 0; i < 5; i++) {
            due(x.takes(0, 10 * i), i + 1);
        }
        // 1, 2, 3, 4, 5 minutes, and nine times as long by TIER 1, who ties tie 0 alone, as the second.
        bytes(x, 0, 4, 3, 2, 1, 0);
        due(x.order(0, 0, -1), 14);
        ordered(x, 0, 3, 0, 2, 1, 4);
        bytes(x, 0, 2, 1);
        due(x.order(0, 0, -1), 18);
        ordered(x, 0, 2, 1);
        bytes(x, 0, 1, 2);
        due(x.order(0, 0, -1), 18);
        ordered(x, 0, 2, 1);
    }

    @Sentence({"TAXI: minutes told: how many ties of the ROW, in its order, are done by then.", "TAXI: m (0 .. 9999). NOT: no TIERS."})
    void taxiByThen() {
        EndTooLong x = alike(3);
        bytes(x, 0, 0, 1, 2);
        for (int m : new int[] {0, 9999}) {
            due(x.taxi(0, 1, m), NOT);
        }
        for (int m : outside(0, 9999)) {
            due(x.taxi(0, 1, m), BAD);
        }
        x.tier(21, 63);
        for (int m : outside(0, 9999)) {
            due(x.taxi(0, 1, m), BAD);
        }
        int[] minutes = {0, 1, 2, 3, 4, 5, 6, 7, 9998, 9999};
        int[] done = {0, 0, 1, 1, 2, 2, 3, 3, 3, 3};
        for (int i = 0; i < minutes.length; i++) {
            due("by " + minutes[i], x.taxi(0, 1, minutes[i]), done[i]);
        }
        // The first one takes 60 minutes by TIER 0; TIER 1 is done with the others at 2 and 4.
        x.mend(0, 0, 40);
        x.mend(0, 9, 1);
        x.tier(21, 63);
        int[] then = {1, 2, 3, 4, 59, 60};
        int[] ones = {0, 1, 1, 2, 2, 3};
        for (int i = 0; i < then.length; i++) {
            due("by " + then[i], x.taxi(0, 1, then[i]), ones[i]);
        }
        bytes(x, 0, NO_ELEMENTS);
        due(x.taxi(0, 1, 9999), 0);
    }

    /** All six ties by one TIER that never gets them right, at PACE 9: the last is done at 3240. */
    @Sentence("(NOT: 60 times). SIX: a ROW of bytes on a SHELF")
    void longestMorning() {
        EndTooLong x = alike(6);
        x.tier(91, 63);
        bytes(x, 0, 0, 1, 2, 3, 4, 5);
        due(x.six(0, 0, -1), 6 * 540);
        due(x.taxi(0, 0, 6 * 540 - 1), 5);
        due(x.taxi(0, 0, 6 * 540), 6);
        due(x.oneMore(0, 0, 0), 3 * 540);
    }

    @Sentence({"ONE MORE: by how many minutes all are done earlier, if there were one TIER more as a told one.",
        "ONE MORE as a told one (may be below 0). VOID: BAD, no ROW of bytes."})
    void oneMoreAtItsEdges() {
        EndTooLong x = alike(6);
        bytes(x, 0, 0, 1, 2);
        due(x.oneMore(0, 1, 0), VOID);
        x.tier(11, 63);
        x.tier(21, 63);
        for (int tier : new int[] {-1, 2, 6, LEAST, MOST}) {
            due(x.oneMore(0, 1, tier), VOID);
        }
        for (int knot : outside(0, 4)) {
            due(x.oneMore(0, knot, 0), VOID);
        }
        for (int shelf : outside(0, 5)) {
            due(x.oneMore(shelf, 1, 0), VOID);
        }
        due(x.oneMore(1, 1, 0), VOID);
        for (int sort = 1; sort <= 4; sort++) {
            x.row(1, sort, 3);
            due(x.oneMore(1, 1, 0), VOID);
        }
        x.body(0);
        x.keep(1, 0);
        due(x.oneMore(1, 1, 0), VOID);
        // 2 minutes now (1 and 1 by TIER 0, 2 by TIER 1); one more as TIER 0: 1, 2, 1.
        due(x.six(0, 1, -1), 2);
        due(x.oneMore(0, 1, 0), 0);
        // The third one never hangs right: 60 minutes by TIER 0, 120 by one as TIER 1, who is free first.
        x.mend(2, 0, 40);
        due(x.six(0, 1, -1), 61);
        due(x.oneMore(0, 1, 1), 61 - 120);
        due(x.oneMore(0, 1, 0), 61 - 60);
        due(x.count(1), 2);
        bytes(x, 0, NO_ELEMENTS);
        due(x.oneMore(0, 1, 0), 0);
    }

    @Sentence("if there were one TIER more")
    void oneMoreBeyondSix() {
        EndTooLong x = alike(6);
        bytes(x, 0, 0, 1, 2, 3, 4, 5);
        for (int tiers = 1; tiers <= 6; tiers++) {
            x.tier(11, 63);
            int now = (6 + tiers - 1) / tiers;
            int then = (6 + tiers) / (tiers + 1);
            due(tiers + " TIERS", x.six(0, 1, -1), now);
            due(tiers + " TIERS", x.oneMore(0, 1, tiers - 1), now - then);
            due(x.count(1), tiers);
        }
        due(x.tier(11, 63), FULL);
    }

    // ---- TRIES

    @Sentence("JUDGED: the first that is not so (also one behind that which was RIGHT); NOT.")
    void judgedToTheEnd() {
        EndTooLong x = one();
        shorts(x, 0, NO_ELEMENTS);
        due(x.judge(0, 1, 701), NOT);
        shorts(x, 0, 58, 50, 51);
        due(x.judge(0, 1, 701), NOT);
        // Behind the RIGHT one even its own BROAD is not so.
        shorts(x, 0, 58, 50, 51, 51);
        due(x.judge(0, 1, 701), 3);
        shorts(x, 0, 51, 51);
        due(x.judge(0, 1, 631), 1);
        // Nor what would be if it were corrected all the same.
        shorts(x, 0, 51, 50);
        due(x.judge(0, 1, 631), 1);
        due(x.which(0, 0, 631), 0);
        due(x.began(0, 1, 1), NOT);
        due(x.thickness(0, 1, 631), NOT);
        shorts(x, 0, 57, 50, 51);
        due(x.judge(0, 1, 701), 0);
        shorts(x, 0, 58, 49, 51);
        due(x.judge(0, 1, 701), 1);
        shorts(x, 0, 58, 50, 52);
        due(x.judge(0, 1, 701), 2);
        shorts(x, 0, 58);
        due(x.judge(0, 1, 701), NOT);
        // A BROAD below 0.
        shorts(x, 0, -12, 50, 51);
        due(x.judge(0, 1, 1), NOT);
        // Sixty that never come right.
        x.row(0, 1, 60);
        x.mend(0, 0, 40);
        for (int i = 0; i < 60; i++) {
            x.put(0, i, i == 0 ? 0 : i % 2 == 1 ? 50 : 51);
        }
        due(x.judge(0, 0, 61), NOT);
        x.put(0, 59, 49);
        due(x.judge(0, 0, 61), 59);
    }

    @Sentence("WHICH KNOT: which KNOTS (bits) make it so.")
    void whichKnotsByBits() {
        EndTooLong x = one();
        shorts(x, 0, NO_ELEMENTS);
        due(x.which(0, 0, 701), 31);
        for (int knot = 0; knot < 5; knot++) {
            shorts(x, 0, 70 - 6 - 6 * knot);
            due(x.which(0, 0, 701), 1 << knot);
        }
        shorts(x, 0, 65);
        due(x.which(0, 0, 701), 0);
        for (int knot = 0; knot < 5; knot++) {
            x.mend(knot, 5, 9);
        }
        shorts(x, 0, 40, 50);
        due(x.which(0, 0, 701), 31);
        x.mend(4, 5, 8);
        due(x.which(0, 0, 701), 15);
        x.mend(0, 5, 8);
        due(x.which(0, 0, 701), 14);
    }

    @Sentence("BEGAN: the least b by which it is so; NOT.")
    void beganAtTheLeastB() {
        EndTooLong x = one();
        shorts(x, 0, NO_ELEMENTS);
        due(x.began(0, 1, 1), 0);
        shorts(x, 0, -12);
        due(x.began(0, 1, 1), 0);
        shorts(x, 0, -13);
        due(x.began(0, 1, 1), NOT);
        shorts(x, 0, 188);
        due(x.began(0, 1, 1), 200);
        shorts(x, 0, 189);
        due(x.began(0, 1, 1), NOT);
        // Told by SHARE 1 alone.
        shorts(x, 0, 58, 50, 51);
        due(x.began(0, 1, 1), 70);
        due(x.began(0, 1, 4), NOT);
        shorts(x, 0, 58, 50, 51, 51);
        due(x.began(0, 1, 1), NOT);
        // Of 20 .. 40, where BROAD is 20, the least.
        tell(x, "b>20?(b-20)*(b<41);0");
        shorts(x, 0, 20);
        due(x.began(0, 1, 1), 20);
        for (int share : outside(1, 4)) {
            due(x.began(0, 1, share), BAD);
        }
    }

    @Sentence("THICKNESS: the least THICK (1 .. 9) by which it is so; NOT.")
    void leastThickness() {
        EndTooLong x = one();
        shorts(x, 0, NO_ELEMENTS);
        due(x.thickness(0, 1, 701), 1);
        for (int thick = 1; thick <= 9; thick++) {
            shorts(x, 0, 70 - 4 * thick);
            due(x.thickness(0, 1, 701), thick);
        }
        shorts(x, 0, 70);
        due(x.thickness(0, 1, 701), NOT);
        shorts(x, 0, 30);
        due(x.thickness(0, 1, 701), NOT);
        // From 70 by each SHARE: of THICK 2 BROAD is 62, then 12, 6, 4, 3 less.
        int[] less = {12, 6, 4, 3};
        for (int share = 1; share <= 4; share++) {
            shorts(x, 0, 62, 62 - less[share - 1]);
            for (int other = 1; other <= 4; other++) {
                due("SHARE " + other, x.thickness(0, 1, 700 + other), other == share ? 2 : NOT);
            }
        }
        // Of 6, 7, 8 the least.
        tell(x, "t/3+t/9");
        shorts(x, 0, 68);
        due(x.thickness(0, 1, 701), 6);
        due(x.of(0, 1), 3);
    }
}
