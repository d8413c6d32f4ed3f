/** What the promises say of refused calls, and which of several answers comes first. */
public final class PromiseBoundsTest extends Bounds {
    /** What names no tie in a KNOT, where there is tie 0 alone. */
    private static final int[] NO_TIE_IN_KNOT = {-1, -5, -9, -10, -11, 5, 6, 9, 10, 14, 70, 74, 80, LEAST, MOST};
    private static final int[] NO_START = {-1, -9, -10, 0, 5, 9, 700, 705, 706, 709, 2000, 2005, 2010, 2011, 2014, LEAST, MOST};
    private static final int[] NO_TIE = {-1, 1, 7, 8, LEAST, MOST};

    private PromiseBoundsTest() {
    }

    public static void main(String[] args) {
        new PromiseBoundsTest().runAll();
    }

    // ---- ties, knots, tiers

    @Sentence("A rail without ties.")
    void promise01() {
        EndTooLong x = new EndTooLong();
        for (int what = 0; what <= 5; what++) {
            due(x.count(what), 0);
        }
        for (int what = 0; what <= 12; what++) {
            due("what " + what, x.of(0, what), what == 5 ? 1 : what == 6 ? 38 : what == 7 ? 50 : what == 8 ? 1 : BAD);
        }
        due(x.law(), -100);
        due(x.led(3), VOID);
        due(x.back(), STATE);
        due(x.undo(), STATE);
        due(x.redo(), STATE);
        due(x.trace(0), BAD);
        due(x.act(0, 0, 1), 0);
        // Two of them are two.
        x.tie(150, 3);
        x.mend(0, 6, 20);
        EndTooLong y = new EndTooLong();
        due(y.count(0), 0);
        due(y.of(0, 6), 38);
    }

    @Sentence("An object is used for at most 512 calls after it has been made")
    void lastOfAllCalls() {
        EndTooLong x = one();
        for (int i = 2; i < 512; i++) {
            due("call " + i, x.tieOn(1, 63), 51 + Math.min(99, i - 2) / 10);
        }
        due(x.led(0), 510);
        EndTooLong y = one();
        for (int i = 2; i < 511; i++) {
            due("call " + i, y.mend(0, 4, i % 100), i == 2 ? 0 : (i - 1) % 100);
        }
        due(y.count(3), 40);
        due(y.undo(), 39);
        EndTooLong z = new EndTooLong();
        for (int i = 1; i < 512; i++) {
            due("call " + i, z.body(7), i <= 50 ? i - 1 : FULL);
        }
        due(z.act(49, 0, 1), 1 + 49 + 3);
        EndTooLong tape = one();
        for (int i = 2; i < 511; i++) {
            due("call " + i, tape.feed(i % 2 == 0 ? 't' : '+'), i <= 121 ? i - 1 : FULL);
        }
        due(tape.count(2), 120);
        due(tape.law(), -100 - 120);
    }

    @Sentence("A tie: its number. BAD, FULL: 8.")
    void promise02() {
        EndTooLong x = new EndTooLong();
        int[][] wrong = {{39, 1}, {201, 1}, {40, 0}, {40, 10}, {39, 10}, {-40, 1}, {40, -1}, {LEAST, MOST}, {MOST, LEAST}};
        for (int[] one : wrong) {
            due(x.tie(one[0], one[1]), BAD);
        }
        for (int i = 0; i < 8; i++) {
            due(x.tie(i % 2 == 0 ? 40 : 200, i % 2 == 0 ? 9 : 1), i);
        }
        due(x.tie(40, 9), FULL);
        for (int[] one : wrong) {
            due(x.tie(one[0], one[1]), BAD);
        }
        due(x.count(0), 8);
    }

    @Sentence("BAD, -12 (no ROW of shorts; a SHELF that holds nothing is missing).")
    void promise03() {
        EndTooLong x = new EndTooLong();
        x.body(0);
        for (int content = -2; content <= 4; content++) {
            int due = content == -2 ? 0 : content == 1 ? 1 : OTHER_KIND;
            if (content >= 0) {
                fill(x, 0, content, 100, 1, 0);
            } else {
                x.keep(0, content == -2 ? -1 : 0);
            }
            due("content " + content, x.ties(0, 0, 1), due);
            due("content " + content, x.ties(0, 0, 8), content == 0 ? OTHER_KIND : due);
            due("content " + content, x.ties(0, 9, 1), due == 1 ? 0 : due);
            for (int n : outside(1, 8)) {
                due("content " + content, x.ties(0, 0, n), BAD);
            }
            for (int shelf : outside(0, 5)) {
                due("content " + content, x.ties(shelf, 0, 1), BAD);
            }
        }
        due(x.count(0), 2);
    }

    @Sentence("One who ties at a PACE, by a SHARE (ps: 10 times the PACE, and the SHARE), BEGINS at b: its number. BAD, FULL: 6.")
    void promise04() {
        EndTooLong x = new EndTooLong();
        int[] wrong = {-94, -11, -1, 0, 1, 4, 5, 9, 10, 15, 19, 20, 95, 99, 100, 101, 104, 111, LEAST, MOST};
        for (int ps : wrong) {
            due("ps " + ps, x.tier(ps, 63), BAD);
        }
        int number = 0;
        for (int ps : new int[] {11, 14, 51, 53, 91, 94}) {
            due(x.tier(ps, 63), number);
            due(x.of(number, 9), ps / 10);
            due(x.of(number, 10), ps % 10);
            number++;
        }
        due(x.tier(11, 63), FULL);
        due(x.tier(15, 63), BAD);
        due(x.tier(11, 201), BAD);
        due(x.tier(11, -1), BAD);
        due(x.count(1), 6);
    }

    @Sentence("PACE (9), SHARE (10), BEGINS (11) of a TIER becomes v: what it was. BAD.")
    void promise05() {
        EndTooLong x = new EndTooLong();
        int[] fits = {100, 5, 5, 5, 5, 5, 30, 30, 5, 5, 2, 5};
        for (int what = 0; what <= 11; what++) {
            boolean isThere = what >= 5 && what <= 8;
            due("what " + what, x.mend(0, what, fits[what]) == BAD ? 0 : 1, isThere ? 1 : 0);
        }
        x.tie(150, 3);
        x.tie(150, 3);
        x.tier(11, 63);
        int[] many = {2, 2, 2, 2, 2, 5, 1, 1, 1, 1, 1, 1};
        for (int what = 0; what <= 11; what++) {
            for (int number : new int[] {-1, many[what], many[what] + 1, 8, LEAST, MOST}) {
                due("what " + what + " of " + number, x.mend(number, what, fits[what]), BAD);
            }
            int last = many[what] - 1;
            int was = x.of(last, what);
            due("what " + what, x.mend(last, what, fits[what]), was);
            due("what " + what, x.mend(last, what, fits[what]), fits[what]);
        }
        for (int what : new int[] {-1, 12, 13, 100, LEAST, MOST}) {
            due("what " + what, x.mend(0, what, 5), BAD);
        }
    }

    @Sentence("As of mend() (0 to 11); of a tie 12 how often it was tied. BAD.")
    void promise06() {
        EndTooLong x = new EndTooLong();
        x.tie(150, 3);
        x.tier(11, 63);
        int[] many = {1, 1, 1, 1, 1, 5, 1, 1, 1, 1, 1, 1, 1};
        for (int what = 0; what <= 12; what++) {
            for (int number : new int[] {-1, many[what], many[what] + 1, 8, LEAST, MOST}) {
                due("what " + what + " of " + number, x.of(number, what), BAD);
            }
        }
        int[] first = {150, 3, 0, 200, 0, 1, 38, 50, 1, 1, 1, 63, 0};
        for (int what = 0; what <= 12; what++) {
            due("what " + what, x.of(0, what), first[what]);
        }
        for (int what : new int[] {-1, 13, 14, LEAST, MOST}) {
            due("what " + what, x.of(0, what), BAD);
        }
        x.tieOn(1, 0);
        due(x.of(0, 12), 1);
    }

    @Sentence("A byte (0 .. 255) comes to THE TAPE: how many it has. BAD, FULL (120).")
    void promise07() {
        EndTooLong x = new EndTooLong();
        for (int letter : outside(0, 255)) {
            due(x.feed(letter), BAD);
        }
        due(x.count(2), 0);
        due(x.feed(0), 1);
        due(x.feed(255), 2);
        for (int i = 3; i <= 120; i++) {
            due(x.feed(i), i);
            due(x.count(2), i);
        }
        for (int i = 0; i < 3; i++) {
            due(x.feed('1'), FULL);
            due(x.feed(256), BAD);
            due(x.feed(-1), BAD);
            due(x.count(2), 120);
        }
    }

    @Sentence("THE TAPE becomes THE LAW: 1; -100 less its FAULT; THE TAPE is empty then.")
    void promise08() {
        EndTooLong x = one();
        due(x.law(), -100);
        due(x.hangs(1, 63, 3), 12);
        due(tell(x, "7"), 1);
        due(x.count(2), 0);
        due(x.hangs(1, 63, 3), 7);
        // A fault leaves THE LAW that was, and no byte.
        due(tell(x, "8+"), -102);
        due(x.count(2), 0);
        due(x.hangs(1, 63, 3), 7);
        due(x.law(), -100);
        due(x.hangs(1, 63, 3), 7);
        due(tell(x, "+"), -100);
        due(tell(x, "9"), 1);
        due(x.hangs(1, 63, 3), 9);
        // Nothing is left of a longer one ahead of it, nor of a longer fault.
        due(tell(x, "9;8;7;6"), 1);
        due(x.hangs(1, 63, 3), 9);
        due(tell(x, "0?5"), 1);
        due(x.hangs(1, 63, 3), 0);
        due(tell(x, "0?5;0?6;7;8;9;"), -114);
        due(x.hangs(1, 63, 3), 0);
        due(tell(x, "0?1"), 1);
        due(x.hangs(1, 63, 3), 0);
        for (int i = 0; i < 120; i++) {
            x.feed('(');
        }
        due(x.law(), -106);
        due(x.count(2), 0);
        due(x.feed('1'), 1);
    }

    // ---- in thought

    @Sentence("BROAD (what 0), THIN (1), RIGHT (2), what the KNOT takes (3). VOID: BAD.")
    void promise09() {
        EndTooLong x = one();
        for (int tk : NO_TIE_IN_KNOT) {
            due("tk " + tk, x.hangs(tk, 63, 0), VOID);
        }
        for (int b : outside(0, 200)) {
            due(x.hangs(1, b, 0), VOID);
        }
        for (int what : outside(0, 3)) {
            due(x.hangs(1, 63, what), VOID);
        }
        due(x.hangs(1, 63, 0), 51);
        due(x.hangs(1, 63, 1), 49);
        due(x.hangs(1, 63, 2), 1);
        due(x.hangs(1, 63, 3), 12);
        due(new EndTooLong().hangs(0, 0, 0), VOID);
    }

    @Sentence("WHERE: the least (what 0), how many (1; 0), the greatest (2). BAD; NOT.")
    void promise10() {
        EndTooLong x = one();
        for (int tk : NO_TIE_IN_KNOT) {
            for (int what = 0; what <= 2; what++) {
                due("tk " + tk, x.where(tk, what), BAD);
            }
        }
        for (int what : outside(0, 2)) {
            due(x.where(1, what), BAD);
            due(x.where(0, what), BAD);
        }
        due(x.where(0, 0), NOT);
        due(x.where(0, 1), 0);
        due(x.where(0, 2), NOT);
    }

    @Sentence("KNOT: by most b (what 0), with most TURNS (1). BAD; NOT.")
    void promise11() {
        EndTooLong x = one();
        for (int tie : NO_TIE) {
            due("tie " + tie, x.knot(tie, 0), BAD);
            due("tie " + tie, x.knot(tie, 1), BAD);
        }
        for (int what : outside(0, 1)) {
            due(x.knot(0, what), BAD);
        }
        due(x.knot(0, 0), 2);
        due(x.knot(0, 1), 4);
        x.mend(0, 0, 40);
        due(x.knot(0, 0), NOT);
        due(x.knot(0, 1), NOT);
        due(x.knot(0, 2), BAD);
    }

    @Sentence("CORRECT: how many tries (what 0), at which b (1). BAD; NOT.")
    void promise12() {
        EndTooLong x = one();
        for (int tk : NO_TIE_IN_KNOT) {
            due("tk " + tk, x.correct(tk, 631, 0), BAD);
        }
        for (int bs : NO_START) {
            due("bs " + bs, x.correct(1, bs, 0), BAD);
            due("bs " + bs, x.correct(0, bs, 1), BAD);
        }
        for (int what : outside(0, 1)) {
            due(x.correct(1, 631, what), BAD);
            due(x.correct(0, 631, what), BAD);
        }
        due(x.correct(1, 631, 0), 1);
        due(x.correct(1, 634, 1), 63);
        due(x.correct(0, 631, 0), NOT);
        due(x.correct(0, 631, 1), NOT);
    }

    @Sentence("BEST SHARE. BAD; NOT.")
    void promise13() {
        EndTooLong x = one();
        for (int tk : NO_TIE_IN_KNOT) {
            due("tk " + tk, x.share(tk, 63), BAD);
        }
        for (int b : outside(0, 200)) {
            due(x.share(1, b), BAD);
            due(x.share(0, b), BAD);
        }
        due(x.share(1, 63), 1);
        due(x.share(0, 63), NOT);
    }

    @Sentence("BOW: b (what 0), how far apart (1). BAD.")
    void promise14() {
        EndTooLong x = one();
        for (int tk : NO_TIE_IN_KNOT) {
            due("tk " + tk, x.bow(tk, 0), BAD);
            due("tk " + tk, x.bow(tk, 1), BAD);
        }
        for (int what : outside(0, 1)) {
            due(x.bow(1, what), BAD);
        }
        due(x.bow(1, 0), 62);
        due(x.bow(1, 1), 0);
    }

    @Sentence("STAIN at b. BAD.")
    void promise15() {
        EndTooLong x = one();
        for (int tk : NO_TIE_IN_KNOT) {
            due("tk " + tk, x.stain(tk, 63), BAD);
        }
        for (int b : outside(0, 200)) {
            due(x.stain(1, b), BAD);
        }
        due(x.stain(1, 63), 0);
    }

    @Sentence("HIDE. BAD; NOT.")
    void promise16() {
        EndTooLong x = one();
        for (int tk : NO_TIE_IN_KNOT) {
            due("tk " + tk, x.hide(tk), BAD);
        }
        due(x.hide(1), 63);
        due(x.hide(0), NOT);
        x.mend(0, 3, 51);
        due(x.hide(1), NOT);
        x.mend(0, 3, 52);
        due(x.hide(1), 63);
    }

    @Sentence("FIT: the least (what 0), the greatest (1). BAD; NOT.")
    void promise17() {
        EndTooLong x = one();
        for (int tk : NO_TIE_IN_KNOT) {
            due("tk " + tk, x.fit(tk, 0), BAD);
            due("tk " + tk, x.fit(tk, 1), BAD);
        }
        for (int what : outside(0, 1)) {
            due(x.fit(1, what), BAD);
        }
        due(x.fit(1, 0), 37);
        due(x.fit(1, 1), 60);
        x.mend(0, 0, 40);
        due(x.fit(1, 0), NOT);
        due(x.fit(1, 1), NOT);
        due(x.fit(1, 2), BAD);
    }

    @Sentence("WEAR at b. BAD; NOT.")
    void promise18() {
        EndTooLong x = one();
        for (int tk : NO_TIE_IN_KNOT) {
            due("tk " + tk, x.wear(tk, 63), BAD);
        }
        for (int b : outside(0, 200)) {
            due(x.wear(1, b), BAD);
        }
        due(x.wear(1, 63), 9);
        due(x.wear(1, 62), NOT);
    }

    // ---- six who dress

    @Sentence("How long one takes. BAD.")
    void promise19() {
        EndTooLong x = one();
        due(x.takes(0, 1), BAD);
        x.tier(11, 63);
        for (int tier : new int[] {-1, 1, 5, 6, LEAST, MOST}) {
            due("tier " + tier, x.takes(tier, 1), BAD);
        }
        for (int tk : NO_TIE_IN_KNOT) {
            due("tk " + tk, x.takes(0, tk), BAD);
        }
        due(x.takes(0, 1), 1);
    }

    @Sentence("six who dress (a ROW of ties on a SHELF; BAD, -11, -12 (no ROW of bytes)).")
    void rowsOfTiesThatAreNone() {
        for (int tiers = 0; tiers <= 1; tiers++) {
            EndTooLong x = one();
            x.body(0);
            if (tiers == 1) {
                x.tier(11, 63);
            }
            // -11 and -12 are named ahead of NOT, which no TIERS would be.
            for (int content = -2; content <= 4; content++) {
                int due = content == -2 ? NOTHING_THERE : content == 0 ? (tiers == 0 ? NOT : 0) : OTHER_KIND;
                if (content >= 0) {
                    x.row(0, content, 0);
                } else {
                    x.keep(0, content == -2 ? -1 : 0);
                }
                due("content " + content, x.six(0, 1, -1), due);
                due("content " + content, x.order(0, 1, -1), due);
                due("content " + content, x.taxi(0, 1, 9999), due);
                due("content " + content, x.oneMore(0, 1, 0), due == 0 ? 0 : VOID);
                for (int shelf : outside(0, 5)) {
                    due(x.six(shelf, 1, -1), BAD);
                    due(x.order(shelf, 1, -1), BAD);
                    due(x.taxi(shelf, 1, 0), BAD);
                    due(x.oneMore(shelf, 1, 0), VOID);
                }
                for (int knot : outside(0, 4)) {
                    due(x.six(0, knot, -1), BAD);
                    due(x.order(0, knot, -1), BAD);
                    due(x.taxi(0, knot, 0), BAD);
                    due(x.oneMore(0, knot, 0), VOID);
                }
                due(x.six(0, 1, -2), BAD);
                due(x.order(0, 1, -2), BAD);
                due(x.taxi(0, 1, -1), BAD);
                due(x.taxi(0, 1, 10000), BAD);
            }
        }
    }

    // ---- tries read back, in deed

    private interface OfShelf {
        int answer(EndTooLong x, int shelf);
    }

    /** A call that reads tries from a SHELF, of what is no ROW of shorts; and wrong ones, which are BAD whatever it holds. */
    private void ofNoShorts(int ofAnEmptyRow, OfShelf right, OfShelf... wrong) {
        EndTooLong x = one();
        x.body(0);
        for (int content = -2; content <= 4; content++) {
            if (content >= 0) {
                x.row(0, content, 0);
            } else {
                x.keep(0, content == -2 ? -1 : 0);
            }
            int due = content == -2 ? NOTHING_THERE : content == 1 ? ofAnEmptyRow : OTHER_KIND;
            due("content " + content, right.answer(x, 0), due);
            for (int shelf : outside(0, 5)) {
                due("shelf " + shelf, right.answer(x, shelf), BAD);
            }
            for (int i = 0; i < wrong.length; i++) {
                due("content " + content + ", wrong one " + i, wrong[i].answer(x, 0), BAD);
            }
        }
    }

    @Sentence("JUDGED. BAD, -11, -12 (no ROW of shorts); NOT.")
    void promise24() {
        ofNoShorts(NOT, (x, shelf) -> x.judge(shelf, 1, 631),
            (x, shelf) -> x.judge(shelf, 5, 631), (x, shelf) -> x.judge(shelf, 1, 630));
        EndTooLong x = one();
        shorts(x, 0, 51);
        for (int tk : NO_TIE_IN_KNOT) {
            due("tk " + tk, x.judge(0, tk, 631), BAD);
        }
        for (int bs : NO_START) {
            due("bs " + bs, x.judge(0, 1, bs), BAD);
        }
        due(x.judge(0, 1, 631), NOT);
        due(x.judge(0, 0, 631), 0);
    }

    @Sentence("WHICH KNOT: bits. BAD, -11, -12.")
    void promise25() {
        ofNoShorts(31, (x, shelf) -> x.which(shelf, 0, 631),
            (x, shelf) -> x.which(shelf, 1, 631), (x, shelf) -> x.which(shelf, 0, 635));
        EndTooLong x = one();
        shorts(x, 0, 51);
        for (int tie : NO_TIE) {
            due("tie " + tie, x.which(0, tie, 631), BAD);
        }
        for (int bs : NO_START) {
            due("bs " + bs, x.which(0, 0, bs), BAD);
        }
        due(x.which(0, 0, 631), 2);
        due(x.which(0, 0, 641), 0);
    }

    @Sentence("BEGAN. BAD, -11, -12; NOT.")
    void promise26() {
        ofNoShorts(0, (x, shelf) -> x.began(shelf, 1, 1),
            (x, shelf) -> x.began(shelf, 10, 1), (x, shelf) -> x.began(shelf, 1, 5));
        EndTooLong x = one();
        shorts(x, 0, 51);
        for (int tk : NO_TIE_IN_KNOT) {
            due("tk " + tk, x.began(0, tk, 1), BAD);
        }
        for (int share : outside(1, 4)) {
            due("share " + share, x.began(0, 1, share), BAD);
        }
        due(x.began(0, 1, 1), 63);
        due(x.began(0, 1, 4), 63);
        shorts(x, 0, 200);
        due(x.began(0, 1, 1), NOT);
    }

    @Sentence("THICKNESS. BAD, -11, -12; NOT.")
    void promise27() {
        ofNoShorts(1, (x, shelf) -> x.thickness(shelf, 1, 631),
            (x, shelf) -> x.thickness(shelf, -1, 631), (x, shelf) -> x.thickness(shelf, 1, 2011));
        EndTooLong x = one();
        shorts(x, 0, 51);
        for (int tk : NO_TIE_IN_KNOT) {
            due("tk " + tk, x.thickness(0, tk, 631), BAD);
        }
        for (int bs : NO_START) {
            due("bs " + bs, x.thickness(0, 1, bs), BAD);
        }
        due(x.thickness(0, 1, 631), 3);
        due(x.thickness(0, 1, 641), NOT);
    }

    @Sentence("1 mornings that never are). BAD.")
    void promise28() {
        EndTooLong x = one();
        for (int tk : NO_TIE_IN_KNOT) {
            due("tk " + tk, x.drawn(tk, 631, 5, 10), BAD);
        }
        for (int bs : NO_START) {
            due("bs " + bs, x.drawn(1, bs, 5, 10), BAD);
        }
        for (int seed : new int[] {LEAST, -1, 0, 1, MOST}) {
            due("seed " + seed, x.drawn(0, 631, seed, 500), 3000);
            due("seed " + seed, x.drawn(0, 631, seed, 501), 50);
        }
    }

    @Sentence("TIE: BROAD. VOID: BAD.")
    void promise29() {
        EndTooLong x = one();
        for (int tk : NO_TIE_IN_KNOT) {
            due("tk " + tk, x.tieOn(tk, 63), VOID);
        }
        for (int b : outside(0, 200)) {
            due(x.tieOn(1, b), VOID);
        }
        due(x.led(0), 0);
        due(x.of(0, 4), 0);
        due(x.of(0, 12), 0);
        due(x.tieOn(1, 0), -12);
        due(x.tieOn(4, 200), 170);
        due(x.led(0), 2);
    }

    // ---- acts, shelves

    @Sentence("A SHELF holds nothing (body -1), or a TURN: 1. BAD.")
    void promise39() {
        EndTooLong x = new EndTooLong();
        due(x.keep(0, -1), 1);
        due(x.keep(0, 0), BAD);
        due(x.taken(0, 0), NOTHING_THERE);
        x.body(3);
        for (int body : new int[] {-2, 1, 49, 50, LEAST, MOST}) {
            due(x.keep(0, body), BAD);
        }
        due(x.taken(0, 0), NOTHING_THERE);
        due(x.keep(0, 0), 1);
        for (int body : new int[] {-2, 1, 49, 50, LEAST, MOST}) {
            due(x.keep(0, body), BAD);
        }
        for (int shelf : outside(0, 5)) {
            due(x.keep(shelf, 0), BAD);
            due(x.keep(shelf, -1), BAD);
        }
        due(x.taken(0, 0), 3);
        due(x.keep(0, -1), 1);
        due(x.keep(0, -1), 1);
        due(x.taken(0, 0), NOTHING_THERE);
    }

    @Sentence("A SHELF holds a ROW: 1. BAD (sort, n above 60); -14.")
    void promise40() {
        EndTooLong x = new EndTooLong();
        fill(x, 0, 3, 7, 8);
        for (int sort : outside(0, 4)) {
            due(x.row(0, sort, 1), BAD);
            due(x.row(0, sort, -1), BAD);
        }
        for (int n : new int[] {61, 62, 1000, MOST}) {
            due(x.row(0, 0, n), BAD);
        }
        for (int n : new int[] {-1, -2, -61, LEAST}) {
            due(x.row(0, 0, n), SIZE_BELOW_ZERO);
            due(x.row(6, 0, n), BAD);
            due(x.row(-1, 0, n), BAD);
            due(x.row(1, 0, n), SIZE_BELOW_ZERO);
        }
        due(x.element(0, 1), 8);
        due(x.put(1, 0, 1), NOTHING_THERE);
        due(x.row(0, 0, 0), 1);
        due(x.put(0, 0, 1), NO_PLACE);
        due(x.row(0, 4, 60), 1);
        due(x.put(0, 59, 1), 1);
    }

    /** SHELF 0 holds nothing, 1 a TURN, 2 a ROW of two, 3 a ROW of none. */
    private static EndTooLong shelved() {
        EndTooLong x = new EndTooLong();
        x.body(0);
        x.keep(1, 0);
        x.row(2, 3, 2);
        x.row(3, 3, 0);
        return x;
    }

    private static final int[] PLACES = {-1, 0, 1, 2, 60, LEAST, MOST};

    @Sentence("Element i of a ROW becomes v: 1. BAD, -11, -12, -13.")
    void promise41() {
        EndTooLong x = shelved();
        for (int i : PLACES) {
            for (int shelf : outside(0, 5)) {
                due("place " + i, x.put(shelf, i, 7), BAD);
            }
            due("place " + i, x.put(0, i, 7), NOTHING_THERE);
            due("place " + i, x.put(1, i, 7), OTHER_KIND);
            due("place " + i, x.put(2, i, 7 + i), i == 0 || i == 1 ? 1 : NO_PLACE);
            due("place " + i, x.put(3, i, 7), NO_PLACE);
        }
        due(x.element(2, 0), 7);
        due(x.element(2, 1), 8);
        due(x.taken(1, 0), 0);
    }

    @Sentence("Element i of a ROW; Long.MIN_VALUE: BAD, -11 to -13.")
    void promise42() {
        EndTooLong x = shelved();
        x.put(2, 0, 7);
        x.put(2, 1, 8);
        for (int i : PLACES) {
            for (int shelf : outside(0, 5)) {
                due("place " + i, x.element(shelf, i), Long.MIN_VALUE);
            }
            due("place " + i, x.element(0, i), Long.MIN_VALUE);
            due("place " + i, x.element(1, i), Long.MIN_VALUE);
            due("place " + i, x.element(2, i), i == 0 || i == 1 ? 7 + i : Long.MIN_VALUE);
            due("place " + i, x.element(3, i), Long.MIN_VALUE);
        }
        // A long may be the least one itself.
        due(x.put(2, 0, Long.MIN_VALUE), 1);
        due(x.element(2, 0), Long.MIN_VALUE);
        due(x.put(2, 0, Long.MIN_VALUE + 1), 1);
        due(x.element(2, 0), Long.MIN_VALUE + 1);
    }

    private void row(EndTooLong x, int shelf, long... values) {
        for (int i = 0; i < values.length; i++) {
            due("element " + i, x.element(shelf, i), values[i]);
        }
        due("behind them", x.element(shelf, values.length), Long.MIN_VALUE);
    }

    @Sentence({"n elements of a ROW from i on come to another one (or the same) from j on, as they all were before: n.",
        "BAD, -11 (either), -12 (no ROWS, or of unlike sorts), -13."})
    void promise43() {
        EndTooLong x = new EndTooLong();
        x.body(0);
        x.keep(5, 0);
        fill(x, 0, 2, 1, 2, 3, 4, 5);
        fill(x, 1, 2, 9, 9, 9);
        for (int shelf : outside(0, 5)) {
            for (int other : new int[] {0, 4, 5}) {
                due(x.shift(shelf, 0, other, 0, 1), BAD);
                due(x.shift(other, 0, shelf, 0, 1), BAD);
                due(x.shift(other, -1, shelf, -1, -1), BAD);
            }
        }
        int[] places = {-1, 0, 9, LEAST, MOST};
        for (int i : places) {
            for (int other : new int[] {0, 4, 5}) {
                due(x.shift(4, i, other, i, i), NOTHING_THERE);
                due(x.shift(other, i, 4, i, i), NOTHING_THERE);
            }
            due(x.shift(5, i, 0, i, i), OTHER_KIND);
            due(x.shift(0, i, 5, i, i), OTHER_KIND);
            due(x.shift(5, i, 5, i, i), OTHER_KIND);
            for (int sort = 0; sort <= 4; sort++) {
                x.row(3, sort, 5);
                due("sort " + sort, x.shift(0, i, 3, i, 0), sort != 2 ? OTHER_KIND : i == 0 ? 0 : NO_PLACE);
                due("sort " + sort, x.shift(3, i, 0, i, 0), sort != 2 ? OTHER_KIND : i == 0 ? 0 : NO_PLACE);
            }
        }
        int[][] wrong = {
            {-1, 0, 1}, {0, -1, 1}, {0, 0, -1}, {0, 0, 4}, {3, 0, 3}, {4, 0, 2}, {5, 0, 1}, {6, 0, 0}, {0, 1, 3}, {0, 3, 1},
            {0, 4, 0}, {-1, 0, 0}, {0, -1, 0}, {1, 1, -1}, {MOST, 0, 1}, {0, MOST, 1}, {1, 1, MOST}, {MOST, MOST, MOST},
            {LEAST, 0, 1}, {0, LEAST, 1}, {0, 0, LEAST}, {MOST, 0, LEAST}, {LEAST, LEAST, LEAST}, {2, 0, MOST},
        };
        for (int[] p : wrong) {
            due(p[0] + ", " + p[1] + ", " + p[2], x.shift(0, p[0], 1, p[1], p[2]), NO_PLACE);
        }
        row(x, 0, 1, 2, 3, 4, 5);
        row(x, 1, 9, 9, 9);
        // None, from behind the last one to behind the last one.
        due(x.shift(0, 5, 1, 3, 0), 0);
        due(x.shift(0, 0, 1, 0, 0), 0);
        row(x, 1, 9, 9, 9);
        due(x.shift(0, 3, 1, 1, 2), 2);
        row(x, 1, 9, 4, 5);
        due(x.shift(0, 0, 1, 0, 3), 3);
        row(x, 1, 1, 2, 3);
        // The same one, upward and downward, over itself.
        due(x.shift(0, 0, 0, 1, 4), 4);
        row(x, 0, 1, 1, 2, 3, 4);
        due(x.shift(0, 1, 0, 0, 4), 4);
        row(x, 0, 1, 2, 3, 4, 4);
        due(x.shift(0, 0, 0, 0, 5), 5);
        row(x, 0, 1, 2, 3, 4, 4);
        // Sixty, of each sort.
        for (int sort = 0; sort <= 4; sort++) {
            x.row(0, sort, 60);
            x.row(1, sort, 60);
            x.put(0, 0, 1);
            x.put(0, 59, 1);
            due(x.shift(0, 0, 1, 0, 60), 60);
            due(x.shift(0, 0, 1, 0, 61), NO_PLACE);
            due(x.element(1, 0), 1);
            due(x.element(1, 58), 0);
            due(x.element(1, 59), 1);
        }
    }

    @Sentence("What a SHELF holds, taken for a TURN of KIND k (0 .. 7), or under it: its KIND. BAD, -11, -12.")
    void promise44() {
        EndTooLong x = new EndTooLong();
        String[] under = {"0", "01", "02", "023", "014", "0235", "06", "0147"};
        due(x.taken(0, 0), NOTHING_THERE);
        for (int kind = 0; kind < 8; kind++) {
            x.body(kind);
            x.keep(0, kind);
            for (int k = 0; k < 8; k++) {
                due(kind + " for " + k, x.taken(0, k), under[kind].indexOf('0' + k) >= 0 ? kind : OTHER_KIND);
            }
            for (int k : outside(0, 7)) {
                due(x.taken(0, k), BAD);
                due(x.taken(1, k), BAD);
            }
        }
        for (int shelf : outside(0, 5)) {
            due(x.taken(shelf, 0), BAD);
        }
        for (int k = 0; k < 8; k++) {
            due(x.taken(1, k), NOTHING_THERE);
            x.row(2, k % 5, 3);
            due(x.taken(2, k), OTHER_KIND);
        }
    }

    @Sentence("5 bodies that ran in the latest act() (all, kept or not). BAD.")
    void promise45() {
        EndTooLong x = new EndTooLong();
        for (int what : outside(0, 5)) {
            due(x.count(what), BAD);
        }
        x.tie(150, 3);
        x.tier(11, 0);
        x.tier(11, 0);
        tell(x, "t");
        x.feed('t');
        x.feed('t');
        x.feed('t');
        for (int i = 1; i <= 5; i++) {
            x.mend(0, 4, i);
        }
        x.undo();
        for (int i = 0; i < 5; i++) {
            x.body(7);
        }
        x.act(4, 1, 0);
        int[] many = {1, 2, 3, 4, 5, 8};
        for (int what = 0; what <= 5; what++) {
            due(x.count(what), many[what]);
        }
    }

    // ---- answers

    @Sentence({"The host's REFUSALS: -11 nothing is there where something is wanted; -12 it is of another kind;",
        "-13 a place that is not there; -14 a size below 0."})
    void refusals() {
        EndTooLong x = new EndTooLong();
        due(x.put(0, 0, 1), -11);
        x.body(0);
        x.keep(0, 0);
        due(x.put(0, 0, 1), -12);
        x.row(0, 0, 1);
        due(x.taken(0, 0), -12);
        due(x.put(0, 1, 1), -13);
        due(x.put(0, -1, 1), -13);
        due(x.row(0, 0, -1), -14);
    }

    @Sentence({"BAD (-1): no such number, or it is not as said; NOT (-2): as told; FULL (-3); STATE (-5): as told; -11 to -14.",
        "VOID is -2000000000."})
    void answersByName() {
        due(EndTooLong.BAD, -1);
        due(EndTooLong.NOT, -2);
        due(EndTooLong.FULL, -3);
        due(EndTooLong.STATE, -5);
        due(EndTooLong.VOID, -2000000000);
        EndTooLong x = one();
        due(x.of(1, 0), -1);
        due(x.where(0, 0), -2);
        for (int i = 1; i < 8; i++) {
            x.tie(150, 3);
        }
        due(x.tie(150, 3), -3);
        due(x.undo(), -5);
        due(x.tieOn(80, 0), -2000000000);
    }

    @Sentence("Answers, of several the one named first:")
    void firstOfSeveral() {
        // BAD ahead of FULL.
        EndTooLong x = new EndTooLong();
        for (int i = 0; i < 120; i++) {
            x.tie(150, 3);
            x.tier(11, 63);
            x.body(0);
            x.feed('x');
        }
        due(x.tie(39, 3), BAD);
        due(x.tie(150, 10), BAD);
        due(x.tier(15, 63), BAD);
        due(x.tier(11, 201), BAD);
        due(x.body(8), BAD);
        due(x.feed(256), BAD);
        // BAD ahead of NOT and STATE.
        EndTooLong y = one();
        for (int i = 0; i < 5; i++) {
            y.tie(150, 3);
        }
        due(y.where(0, 3), BAD);
        due(y.correct(0, 630, 0), BAD);
        due(y.fit(5, 0), BAD);
        bytes(y, 0, 0, 1, 2, 3, 4, 5);
        due(y.six(0, 1, -2), BAD);
        due(y.order(0, 1, -2), BAD);
        due(y.order(0, 5, -1), BAD);
        due(y.taxi(0, 1, 10000), BAD);
        // BAD ahead of -11 to -14, and these one ahead of the other.
        y.body(0);
        y.keep(1, 0);
        due(y.put(6, 0, 1), BAD);
        due(y.taken(2, 8), BAD);
        due(y.taken(1, 8), BAD);
        due(y.row(0, 5, -1), BAD);
        due(y.row(6, 0, -1), BAD);
        due(y.ties(1, 0, 9), BAD);
        due(y.ties(6, 0, 0), BAD);
        due(y.judge(1, 1, 630), BAD);
        due(y.judge(2, 1, 630), BAD);
        due(y.shift(1, 0, 6, 0, 1), BAD);
        due(y.shift(1, -1, 2, -1, 1), NOTHING_THERE);
        due(y.shift(2, -1, 1, -1, 1), NOTHING_THERE);
        due(y.shift(1, -1, 0, -1, 1), OTHER_KIND);
        due(y.put(1, 99, 1), OTHER_KIND);
        due(y.put(2, 99, 1), NOTHING_THERE);
    }
}
