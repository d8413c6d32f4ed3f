/** Section 1 of the document but for THE LAW: ties, the one who wears them, KNOTS, and how a tie hangs. */
public final class TiesBoundsTest extends Bounds {
    private TiesBoundsTest() {
    }

    public static void main(String[] args) {
        new TiesBoundsTest().runAll();
    }

    /** A number of mend(): what is beyond its bounds is refused and changes nothing, both ends are held. */
    private void holdsWithin(EndTooLong x, int number, int what, int least, int most) {
        int was = x.of(number, what);
        for (int v : outside(least, most)) {
            int changes = x.count(3);
            due("mend to " + v, x.mend(number, what, v), BAD);
            due(x.of(number, what), was);
            due(x.count(3), changes);
        }
        due(x.mend(number, what, most), was);
        due(x.of(number, what), most);
        due(x.mend(number, what, least), most);
        due(x.of(number, what), least);
        due(x.mend(number, what, least + 1), least);
        due(x.of(number, what), least + 1);
        due(x.mend(number, what, most - 1), least + 1);
        due(x.of(number, what), most - 1);
    }

    // ---- how many, and within which bounds

    @Sentence("TIES 0 .. 7, as they come")
    void tiesAreEight() {
        EndTooLong x = new EndTooLong();
        for (int tie = 0; tie < 8; tie++) {
            due(x.of(tie, 0), BAD);
            due(x.hangs(10 * tie, 0, 3), VOID);
            due(x.tie(100 + tie, 1 + tie), tie);
            due(x.of(tie, 0), 100 + tie);
            due(x.of(tie, 1), 1 + tie);
            due(x.hangs(10 * tie, 0, 3), 2 + 2 * tie);
        }
        due(x.tie(100, 1), FULL);
        due(x.count(0), 8);
        due(x.of(8, 0), BAD);
        due(x.of(-1, 0), BAD);
        due(x.of(7, 0), 107);
        due(x.hangs(80, 0, 3), VOID);
    }

    @Sentence("LONG (40 .. 200)")
    void longIsWithin() {
        EndTooLong x = new EndTooLong();
        for (int v : outside(40, 200)) {
            due(x.tie(v, 1), BAD);
        }
        due(x.count(0), 0);
        due(x.tie(40, 1), 0);
        due(x.tie(200, 1), 1);
        due(x.of(0, 0), 40);
        due(x.of(1, 0), 200);
        holdsWithin(x, 1, 0, 40, 200);
        due(x.of(0, 0), 40);
        shorts(x, 0, 39, 1, 0, 201, 1, 0, 40, 1, 0, 200, 1, 0);
        due(x.ties(0, 0, 1), 0);
        due(x.ties(0, 3, 1), 0);
        due(x.ties(0, 6, 2), 2);
        due(x.of(2, 0), 40);
        due(x.of(3, 0), 200);
    }

    @Sentence("THICK (1 .. 9), SLIPS")
    void thickIsWithin() {
        EndTooLong x = new EndTooLong();
        for (int v : outside(1, 9)) {
            due(x.tie(100, v), BAD);
        }
        due(x.count(0), 0);
        due(x.tie(100, 1), 0);
        due(x.tie(100, 9), 1);
        due(x.of(0, 1), 1);
        due(x.of(1, 1), 9);
        holdsWithin(x, 0, 1, 1, 9);
        due(x.of(1, 1), 9);
        shorts(x, 0, 50, 0, 0, 50, 10, 0, 50, 1, 0, 50, 9, 0);
        due(x.ties(0, 0, 1), 0);
        due(x.ties(0, 3, 1), 0);
        due(x.ties(0, 6, 2), 2);
        due(x.of(2, 1), 1);
        due(x.of(3, 1), 9);
    }

    @Sentence("SLIPS (0 .. 9; 0 at first)")
    void slipsAreWithin() {
        EndTooLong x = one();
        x.tie(150, 3);
        due(x.of(0, 2), 0);
        holdsWithin(x, 0, 2, 0, 9);
        due(x.of(1, 2), 0);
        shorts(x, 0, 50, 1, -1, 50, 1, 10, 50, 1, 0, 50, 1, 9);
        due(x.ties(0, 0, 1), 0);
        due(x.ties(0, 3, 1), 0);
        due(x.ties(0, 6, 2), 2);
        due(x.of(2, 2), 0);
        due(x.of(3, 2), 9);
    }

    @Sentence("STAIN (0 .. 200 from the broad end's tip on; 200 at first: beyond all of them)")
    void stainIsWithin() {
        EndTooLong x = one();
        due(x.of(0, 3), 200);
        for (int b = 0; b < 200; b++) {
            due(x.stain(1, b), 0);
        }
        holdsWithin(x, 0, 3, 0, 200);
        shorts(x, 0, 50, 1, 0);
        x.ties(0, 0, 1);
        due(x.of(1, 3), 200);
    }

    @Sentence("WORN (0 .. 99; 0 at first)")
    void wornIsWithin() {
        EndTooLong x = one();
        shorts(x, 0, 50, 1, 0);
        x.ties(0, 0, 1);
        due(x.of(0, 4), 0);
        due(x.of(1, 4), 0);
        holdsWithin(x, 0, 4, 0, 99);
        due(x.of(1, 4), 0);
    }

    @Sentence("NECK (20 .. 60; 38 at first)")
    void neckIsWithin() {
        EndTooLong x = one();
        due(x.of(0, 6), 38);
        due(x.hangs(0, 0, 1), 150 - 38);
        holdsWithin(x, 0, 6, 20, 60);
        due(x.hangs(0, 0, 1), 150 - 59);
    }

    @Sentence("BELT (10 .. 99; 50 at first)")
    void beltIsWithin() {
        EndTooLong x = bare(110);
        due(x.of(0, 7), 50);
        due(x.hangs(0, 50, 2), 1);
        holdsWithin(x, 0, 7, 10, 99);
        due(x.hangs(0, 50, 2), 0);
    }

    @Sentence("NEAR (0 .. 9; 1 at first)")
    void nearIsWithin() {
        EndTooLong x = bare(110);
        due(x.of(0, 8), 1);
        due(x.where(0, 1), 3);
        holdsWithin(x, 0, 8, 0, 9);
        due(x.where(0, 1), 2 * 8 + 1);
    }

    @Sentence("KNOTS 0 .. 4 have TURNS (1 .. 9; KNOT k: 2 k and 1 at first).")
    void knotsAreFive() {
        EndTooLong x = one();
        for (int knot = 0; knot < 5; knot++) {
            due(x.of(knot, 5), 2 * knot + 1);
            due(x.hangs(knot, 0, 3), 3 * (2 * knot + 1) + 3);
        }
        for (int knot : new int[] {-1, 5, 8, LEAST, MOST}) {
            due(x.of(knot, 5), BAD);
            due(x.mend(knot, 5, 1), BAD);
        }
        for (int tk : new int[] {5, 9, -1}) {
            due(x.hangs(tk, 0, 3), VOID);
        }
        for (int knot = 0; knot < 5; knot++) {
            holdsWithin(x, knot, 5, 1, 9);
            due(x.hangs(knot, 0, 3), 3 * 8 + 3);
        }
    }

    @Sentence("(tk: 10 times the tie, and the KNOT; bs: 10 times b, and the SHARE).")
    void eachTieInEachKnot() {
        EndTooLong x = new EndTooLong();
        for (int tie = 0; tie < 8; tie++) {
            x.tie(100 + tie, 1 + tie);
        }
        int[] often = new int[8];
        for (int tk = -1; tk <= 90; tk++) {
            int tie = tk / 10;
            int knot = tk % 10;
            boolean isThere = tk >= 0 && tie < 8 && knot < 5;
            int takes = (1 + tie) * (2 * knot + 2);
            due("tk " + tk, x.hangs(tk, 150, 3), isThere ? takes : VOID);
            due("tk " + tk, x.hangs(tk, 40, 1), isThere ? 100 + tie - 78 : VOID);
            due("tk " + tk, x.tieOn(tk, 150), isThere ? 150 - takes : VOID);
            if (isThere) {
                often[tie]++;
                due(x.of(tie, 12), often[tie]);
                due(x.of(tie, 4), often[tie]);
            }
        }
        due(x.led(0), 40);
    }

    @Sentence("bs: 10 times b, and the SHARE).")
    void eachBeginningByEachShare() {
        for (int b = 0; b <= 200; b++) {
            // It never hangs right: a second try always comes.
            EndTooLong x = new EndTooLong();
            x.tie(40, 3);
            for (int share = 1; share <= 4; share++) {
                int broad = b - 12;
                int step = (50 - broad) / share;
                int next = broad + (step != 0 ? step : broad > 50 ? -1 : 1);
                shorts(x, 0, broad, next);
                due("b " + b + ", SHARE " + share, x.judge(0, 1, 10 * b + share), NOT);
                due("b " + b + ", SHARE " + share, x.which(0, 0, 10 * b + share), 2);
                due("b " + b + ", SHARE " + share, x.began(0, 1, share), b);
                due("b " + b + ", SHARE " + share, x.thickness(0, 1, 10 * b + share), 3);
                due("b " + b + ", SHARE " + share, x.correct(1, 10 * b + share, 0), NOT);
            }
            for (int share : new int[] {0, 5, 9}) {
                due("b " + b + ", SHARE " + share, x.judge(0, 1, 10 * b + share), BAD);
                due("b " + b + ", SHARE " + share, x.correct(1, 10 * b + share, 0), BAD);
            }
        }
    }

    // ---- what a KNOT takes without a text

    @Sentence("Without a text: t times k, and t, less s, less w by 10 (cut); 0 at least.")
    void clothWithoutText() {
        EndTooLong x = new EndTooLong();
        x.tie(100, 1);
        due(x.hangs(0, 100, 3), 2);
        // WORN by 10 is cut.
        int[] worn = {0, 9, 10, 19, 20, 29};
        int[] takes = {2, 2, 1, 1, 0, 0};
        for (int i = 0; i < worn.length; i++) {
            x.mend(0, 4, worn[i]);
            due("by WORN " + worn[i], x.hangs(0, 100, 3), takes[i]);
        }
        // 2 less 9 for WORN, less 9 for SLIPS: 0 at least.
        for (int i : new int[] {30, 99}) {
            x.mend(0, 4, i);
            due(x.hangs(0, 100, 3), 0);
            due(x.hangs(0, 100, 0), 100);
        }
        x.mend(0, 4, 0);
        for (int slips = 0; slips <= 9; slips++) {
            x.mend(0, 2, slips);
            due("by SLIPS " + slips, x.hangs(0, 100, 3), slips < 2 ? 2 - slips : 0);
        }
        x.mend(0, 4, 99);
        due(x.hangs(0, 100, 3), 0);
        // 9 times 9, and 9: what is told of 60 is told of a text; and the least that this can be.
        x.mend(0, 1, 9);
        x.mend(0, 2, 0);
        x.mend(0, 4, 0);
        due(x.hangs(4, 100, 3), 90);
        due(x.hangs(4, 100, 0), 10);
        x.mend(0, 2, 9);
        x.mend(0, 4, 99);
        due(x.hangs(4, 100, 3), 90 - 9 - 9);
    }

    @Sentence("It gives how much cloth the KNOT takes (held within 0 .. 60).")
    void clothByTextIsHeld() {
        EndTooLong x = one();
        String[] texts = {"0", "1", "59", "60", "61", "9999", "-1", "0-9999", "b", "60-b"};
        int[] takes = {0, 1, 59, 60, 60, 60, 0, 0, 60, 0};
        for (int i = 0; i < texts.length; i++) {
            tell(x, texts[i]);
            due(texts[i], x.hangs(0, 200, 3), takes[i]);
            due(texts[i], x.hangs(0, 200, 0), 200 - takes[i]);
        }
        tell(x, "b");
        due(x.hangs(0, 60, 3), 60);
        due(x.hangs(0, 61, 3), 60);
        tell(x, "60-b");
        due(x.hangs(0, 60, 3), 0);
        due(x.hangs(0, 61, 3), 0);
        // Of the wrapped ones, too.
        tell(x, "4096*4096*128");
        due(x.hangs(0, 200, 3), 0);
        tell(x, "4096*4096*128-1");
        due(x.hangs(0, 200, 3), 60);
    }

    // ---- where one begins, and how it hangs

    @Sentence("One BEGINS at b (0 .. 200: so much of the tie is on the broad side of the throat)")
    void beginsWithin() {
        EndTooLong x = one();
        x.row(0, 1, 0);
        for (int b : outside(0, 200)) {
            due(x.hangs(1, b, 0), VOID);
            due(x.share(1, b), BAD);
            due(x.stain(1, b), BAD);
            due(x.wear(1, b), BAD);
            due(x.tieOn(1, b), VOID);
            due(x.tier(11, b), BAD);
        }
        for (int bs : new int[] {-1, -9, 2011, 2014}) {
            due(x.correct(1, bs, 0), BAD);
            due(x.judge(0, 1, bs), BAD);
            due(x.which(0, 0, bs), BAD);
            due(x.thickness(0, 1, bs), BAD);
            due(x.drawn(1, bs, 0, 10), BAD);
        }
        for (int b : new int[] {0, 200}) {
            due(x.hangs(1, b, 0), b - 12);
            due(x.tieOn(1, b), b - 12);
            due(x.share(1, b) > 0 ? 1 : 0, 1);
            due(x.stain(1, b), b == 0 ? 0 : 2);
            due(x.wear(1, b), NOT);
            due(x.correct(1, 10 * b + 1, 1), 63);
            due(x.judge(0, 1, 10 * b + 1), NOT);
            due(x.which(0, 0, 10 * b + 4), 31);
            due(x.thickness(0, 1, 10 * b + 4), 1);
            due(x.drawn(1, 10 * b + 1, 0, 10) > 0 ? 1 : 0, 1);
        }
        due(x.count(1), 0);
        due(x.led(0), 2);
        due(x.tier(11, 0), 0);
        due(x.tier(11, 200), 1);
    }

    @Sentence("either may be below 0 (it comes out)")
    void endsMayBeBelowNought() {
        EndTooLong x = one();
        due(x.hangs(1, 13, 0), 1);
        due(x.hangs(1, 12, 0), 0);
        due(x.hangs(1, 11, 0), -1);
        due(x.hangs(1, 0, 0), -12);
        due(x.hangs(1, 111, 1), 1);
        due(x.hangs(1, 112, 1), 0);
        due(x.hangs(1, 113, 1), -1);
        due(x.hangs(1, 200, 1), -88);
        // The least and the greatest that either can be.
        x.mend(0, 1, 9);
        due(x.hangs(4, 0, 0), -90);
        due(x.tieOn(4, 0), -90);
        due(x.led(3), -90);
        x.mend(0, 0, 40);
        x.mend(0, 6, 60);
        due(x.hangs(4, 200, 1), -220);
        x.mend(0, 0, 200);
        x.mend(0, 6, 20);
        due(x.hangs(4, 0, 1), 180);
        tell(x, "0");
        due(x.hangs(4, 200, 0), 200);
    }

    @Sentence("if BROAD is no more than NEAR from BELT")
    void broadIsNear() {
        for (int near : new int[] {0, 1, 9}) {
            EndTooLong x = bare(110);
            x.mend(0, 8, near);
            for (int b = 38; b <= 62; b++) {
                due("NEAR " + near + " at " + b, x.hangs(0, b, 2), b >= 50 - near && b <= 50 + near ? 1 : 0);
            }
        }
    }

    @Sentence("and THIN is 0 at least and less than BROAD.")
    void thinIsBetween() {
        // THIN is 50 - b: 1, 0, -1.
        EndTooLong x = bare(88);
        due(x.hangs(0, 49, 2), 1);
        due(x.hangs(0, 50, 2), 1);
        due(x.hangs(0, 51, 2), 0);
        // THIN is 100 - b: at 51 two less than BROAD, at 50 as much.
        EndTooLong y = bare(138);
        due(y.hangs(0, 51, 2), 1);
        due(y.hangs(0, 50, 2), 0);
        due(y.hangs(0, 49, 2), 0);
        // THIN is 99 - b: at 50 one less than BROAD.
        EndTooLong z = bare(137);
        due(z.hangs(0, 50, 2), 1);
        due(z.hangs(0, 49, 2), 0);
    }
}
