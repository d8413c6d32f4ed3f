/** Section 2 of the document: what is asked in thought. */
public final class ThoughtBoundsTest extends Bounds {
    private ThoughtBoundsTest() {
    }

    public static void main(String[] args) {
        new ThoughtBoundsTest().runAll();
    }

    private void where(EndTooLong x, int tk, int least, int many, int greatest) {
        due("least", x.where(tk, 0), least);
        due("many", x.where(tk, 1), many);
        due("greatest", x.where(tk, 2), greatest);
    }

    private void corrected(EndTooLong x, int tk, int bs, int tries, int at) {
        due("tries from " + bs, x.correct(tk, bs, 0), tries);
        due("at which b from " + bs, x.correct(tk, bs, 1), at);
    }

    // ---- WHERE, KNOT

    @Sentence("WHERE: the least b by which it HANGS RIGHT; how many b are such; the greatest; NOT.")
    void whereItHangsRight() {
        EndTooLong x = one();
        where(x, 1, 63, 1, 63);
        where(x, 2, 67, 3, 69);
        where(x, 0, NOT, 0, NOT);
        // A break between the least and the greatest.
        x.mend(0, 0, 128);
        tell(x, "b=50?0;b=70?20;b=90?40;60");
        where(x, 0, 50, 3, 90);
        // The least and the greatest b that can be: BROAD 1 and THIN 0 at 1; BROAD 108 and THIN 0 at 180.
        EndTooLong low = bare(40);
        low.mend(0, 6, 39);
        low.mend(0, 7, 10);
        low.mend(0, 8, 9);
        where(low, 0, 1, 1, 1);
        EndTooLong high = new EndTooLong();
        high.tie(200, 8);
        high.mend(0, 6, 20);
        high.mend(0, 7, 99);
        high.mend(0, 8, 9);
        high.mend(4, 5, 8);
        where(high, 4, 162, 19, 180);
        // Without a break: BROAD is b as far as 99, then 99, and 100 at 160, where no more than 60 is taken.
        EndTooLong all = bare(200);
        all.mend(0, 6, 20);
        all.mend(0, 7, 99);
        tell(all, "(b>99)*(b-99)");
        where(all, 0, 98, 63, 160);
    }

    @Sentence("which of all KNOTS hangs right by most b (of like ones the least; NOT: none)")
    void knotByMostB() {
        EndTooLong x = bare(110);
        due(x.knot(0, 0), 0);
        // Only one, the first and the last one, too; then one by more b than the others.
        for (int knot = 0; knot < 5; knot++) {
            tell(x, "k=" + (2 * knot + 1) + "?0;60");
            x.mend(0, 0, 95);
            due(x.knot(0, 0), knot);
            x.mend(0, 0, 110);
            tell(x, "k=" + (2 * knot + 1) + "?(b>50)*(b-50);(b>51)*60");
            due(x.knot(0, 0), knot);
        }
        tell(x, "k<3?60;b");
        due(x.knot(0, 0), NOT);
        // There is no KNOT without TURNS behind the last one.
        tell(x, "k?60;0");
        due(x.knot(0, 0), NOT);
        due(x.knot(0, 1), NOT);
        x.mend(0, 0, 40);
        tell(x, "0");
        due(x.knot(0, 0), NOT);
        // By one b alone.
        x.mend(0, 0, 88);
        x.mend(0, 8, 0);
        tell(x, "k=7?0;60");
        due(x.where(3, 1), 1);
        due(x.knot(0, 0), 3);
        // Of like ones the least, also behind one that is less.
        tell(x, "k=1?60;0");
        due(x.knot(0, 0), 1);
    }

    @Sentence("which is the one with most TURNS that HANGS RIGHT by some b (of like ones the least); NOT.")
    void knotWithMostTurns() {
        EndTooLong x = bare(88);
        due(x.knot(0, 1), 4);
        x.mend(1, 5, 9);
        due(x.knot(0, 1), 1);
        x.mend(0, 5, 9);
        due(x.knot(0, 1), 0);
        x.mend(0, 5, 8);
        due(x.knot(0, 1), 1);
        // TURNS do not count where it never hangs right.
        tell(x, "k=9?60;0");
        due(x.knot(0, 1), 0);
        x.mend(0, 5, 1);
        due(x.knot(0, 1), 3);
        // One TURN alone, and by one b alone.
        x.mend(0, 8, 0);
        tell(x, "k=1?0;60");
        due(x.where(0, 1), 1);
        due(x.knot(0, 1), 0);
        tell(x, "60");
        due(x.knot(0, 1), NOT);
    }

    // ---- CORRECT, BEST SHARE

    @Sentence("SHARE (1 .. 4: cut toward 0; that makes 0: 1 down, if BROAD is above BELT, else 1 up; b held within 0 .. 200)")
    void correctedByAShare() {
        // RIGHT at 50 alone.
        EndTooLong x = bare(110);
        x.mend(0, 8, 0);
        corrected(x, 0, 501, 1, 50);
        corrected(x, 0, 551, 2, 50);
        corrected(x, 0, 451, 2, 50);
        // Cut toward 0: 55, 53, 52, 51, 50; 45, 47, 48, 49, 50.
        corrected(x, 0, 552, 5, 50);
        corrected(x, 0, 452, 5, 50);
        // 53, 52, 51, 50; 47, 48, 49, 50.
        corrected(x, 0, 533, 4, 50);
        corrected(x, 0, 473, 4, 50);
        // That makes 0: 51, 50; 49, 50.
        corrected(x, 0, 514, 2, 50);
        corrected(x, 0, 494, 2, 50);
        corrected(x, 0, 534, 4, 50);
        corrected(x, 0, 544, 5, 50);
        corrected(x, 0, 464, 5, 50);
        for (int bs : new int[] {0, 500, 505, 509}) {
            due(x.correct(0, bs, 0), BAD);
            due(x.drawn(0, bs, 0, 10), BAD);
        }
        // BROAD is BELT, but THIN as much: 1 up, by whichever SHARE.
        EndTooLong y = bare(138);
        for (int share = 1; share <= 4; share++) {
            corrected(y, 0, 500 + share, 2, 51);
        }
        // From both ends of 0 .. 200.
        corrected(x, 0, 1, 2, 50);
        corrected(x, 0, 2001, 2, 50);
        // 0 12 21 28 33 37 40 42 44 .. 50; 200 163 135 114 98 86 77 71 66 62 59 57 .. 50.
        corrected(x, 0, 4, 15, 50);
        corrected(x, 0, 2004, 19, 50);
    }

    /** No call can tell whether b is held: the document's own numbers never lead beyond. */
    @Sentence("b held within 0 .. 200): how")
    void bIsNeverBeyond() {
        int least = 0;
        int greatest = 200;
        for (int takes = 0; takes <= 91; takes++) {
            for (int belt = 10; belt <= 99; belt++) {
                for (int bs = 0; bs < 804; bs++) {
                    int b = bs / 4;
                    int step = (belt - (b - takes)) / (bs % 4 + 1);
                    int next = b + (step != 0 ? step : b - takes > belt ? -1 : 1);
                    least = Math.min(least, next);
                    greatest = Math.max(greatest, next);
                }
            }
        }
        due(least, 0);
        due(greatest, 200);
        // So the steps from either end are whole: 0 up to 99 + 90, 200 down to 10.
        EndTooLong x = new EndTooLong();
        x.tie(200, 9);
        x.mend(0, 7, 99);
        x.row(0, 1, 2);
        x.put(0, 0, -90);
        x.put(0, 1, 99);
        due(x.judge(0, 4, 1), NOT);
        tell(x, "0");
        x.mend(0, 7, 10);
        x.put(0, 0, 200);
        x.put(0, 1, 10);
        due(x.judge(0, 4, 2001), NOT);
    }

    @Sentence("how many tries till it is RIGHT (1: the first); at which b; NOT in 60 tries.")
    void rightInSixtyTries() {
        EndTooLong x = one();
        corrected(x, 1, 631, 1, 63);
        // 70: 58, 8 down; 62: 50 and 50, not RIGHT, 1 up; 63.
        corrected(x, 1, 701, 3, 63);
        corrected(x, 0, 501, NOT, NOT);
        // BROAD 9, 1 up each try, till 69: from 10 on that is the 60th try, from 9 on it is one too many.
        x.mend(0, 7, 10);
        x.mend(0, 8, 0);
        x.mend(0, 0, 107);
        tell(x, "b<69?b-9;59");
        corrected(x, 1, 111, 59, 69);
        corrected(x, 1, 101, 60, 69);
        corrected(x, 1, 91, NOT, NOT);
        due(x.tier(11, 10), 0);
        due(x.tier(11, 9), 1);
        due(x.takes(0, 1), 60);
        due(x.takes(1, 1), 60);
    }

    @Sentence("BEST SHARE: with which SHARE fewest tries (of like ones the least); NOT.")
    void bestShare() {
        EndTooLong x = bare(110);
        x.mend(0, 8, 0);
        // RIGHT at once by each, in two tries by 1 alone, in two by each.
        due(x.share(0, 50), 1);
        due(x.share(0, 55), 1);
        due(x.share(0, 51), 1);
        // By each SHARE alone: from 62 the way is 12, 6, 4, 3 down, to 50, 56, 58, 59; elsewhere BROAD is 60 less.
        int[] at = {50, 56, 58, 59};
        x.mend(0, 0, 120);
        for (int share = 1; share <= 4; share++) {
            int b = at[share - 1];
            x.mend(0, 8, 9);
            tell(x, "b=62?0;b=" + b + "?0;60");
            due("by SHARE " + share + " alone", x.share(0, 62), share);
            due(x.correct(0, 620 + share, 0), 2);
        }
        // 2 and 4 alike; none.
        tell(x, "b=62?0;b=56|b=59?0;60");
        due(x.share(0, 62), 2);
        tell(x, "b=62?0;b=57?0;60");
        due(x.share(0, 62), NOT);
        // From 110 a SHARE of 5 would be RIGHT at 98 in the second try; 4 is in the third, and no other ever is.
        x.mend(0, 8, 0);
        x.mend(0, 0, 150);
        tell(x, "b=110?0;b=98?48;60");
        due(x.correct(0, 1104, 0), 3);
        due(x.share(0, 110), 4);
        // In the 60th try by each of them, and one too many.
        EndTooLong y = one();
        y.mend(0, 7, 10);
        y.mend(0, 8, 0);
        y.mend(0, 0, 107);
        tell(y, "b<69?b-9;59");
        due(y.share(1, 10), 1);
        due(y.share(1, 9), NOT);
    }

    // ---- BOW, STAIN, HIDE

    @Sentence("BOW: BROAD and THIN alike: the least b by which they are as near as may be; how far they are apart then.")
    void bowByTheLeastB() {
        EndTooLong x = bare(150);
        // BROAD b, THIN 112 - b.
        due(x.bow(0, 0), 56);
        due(x.bow(0, 1), 0);
        // 113 - b: 56 and 57 are both 1 apart.
        x.mend(0, 0, 151);
        due(x.bow(0, 0), 56);
        due(x.bow(0, 1), 1);
        // Alike at 56 and at 60; at 60 alone.
        x.mend(0, 0, 150);
        tell(x, "(b=60)*8");
        due(x.bow(0, 0), 56);
        due(x.bow(0, 1), 0);
        tell(x, "b=60?8;59");
        due(x.bow(0, 0), 60);
        due(x.bow(0, 1), 0);
        // The first b of all: THIN is -20 - b.
        x.mend(0, 0, 40);
        x.mend(0, 6, 60);
        tell(x, "0");
        due(x.bow(0, 0), 0);
        due(x.bow(0, 1), 20);
        tell(x, "b=0?60;0");
        due(x.bow(0, 0), 1);
        due(x.bow(0, 1), 22);
        // As far up as it can be: BROAD b - 90, THIN 180 - b.
        EndTooLong y = new EndTooLong();
        y.tie(200, 9);
        y.mend(0, 6, 20);
        due(y.bow(4, 0), 135);
        due(y.bow(4, 1), 0);
    }

    @Sentence({"STAIN: it is TUCKED, if it is above BROAD (STAIN more than BROAD) and no more than BROAD and what the KNOT takes;",
        "SEEN, if it is no more than BROAD; else it is BEHIND: at b which (2 TUCKED, 1 SEEN, 0 BEHIND)."})
    void stainAtItsEdges() {
        EndTooLong x = one();
        x.mend(0, 3, 50);
        // BROAD 51, 50, 49; then b 51, 50, 49.
        due(x.stain(1, 63), 1);
        due(x.stain(1, 62), 1);
        due(x.stain(1, 61), 2);
        due(x.stain(1, 51), 2);
        due(x.stain(1, 50), 2);
        due(x.stain(1, 49), 0);
        // What a KNOT that takes nothing has not, it does not tuck.
        EndTooLong y = bare(150);
        y.mend(0, 3, 50);
        due(y.stain(0, 50), 1);
        due(y.stain(0, 49), 0);
        tell(y, "1");
        due(y.stain(0, 51), 1);
        due(y.stain(0, 50), 2);
        due(y.stain(0, 49), 0);
        // At either end of the tie.
        x.mend(0, 3, 0);
        due(x.stain(1, 0), 2);
        due(x.stain(1, 11), 2);
        due(x.stain(1, 12), 1);
        x.mend(0, 3, 200);
        due(x.stain(1, 200), 2);
        due(x.stain(1, 199), 0);
        y.mend(0, 3, 200);
        tell(y, "0");
        due(y.stain(0, 200), 1);
        due(y.stain(0, 199), 0);
    }

    @Sentence("HIDE: the least b by which it HANGS RIGHT and the STAIN is not SEEN; NOT.")
    void hiddenByTheLeastB() {
        // KNOT 2 takes 18, RIGHT at 67 .. 69 with BROAD 49 .. 51.
        EndTooLong x = one();
        due(x.hide(2), 67);
        x.mend(0, 3, 50);
        due(x.hide(2), 67);
        x.mend(0, 3, 49);
        due(x.hide(2), NOT);
        x.mend(0, 3, 0);
        due(x.hide(2), NOT);
        x.mend(0, 3, 200);
        due(x.hide(0), NOT);
        // BROAD 50, 49, 51: the second alone does not show it.
        tell(x, "b=67?17;b=68?19;18");
        x.mend(0, 3, 50);
        due(x.hide(0), 68);
        // At the least and the greatest b that can be.
        EndTooLong low = bare(40);
        low.mend(0, 6, 39);
        low.mend(0, 7, 10);
        low.mend(0, 8, 9);
        due(low.hide(0), 1);
        low.mend(0, 3, 2);
        due(low.hide(0), 1);
        low.mend(0, 3, 1);
        due(low.hide(0), NOT);
        EndTooLong high = new EndTooLong();
        high.tie(200, 8);
        high.mend(0, 6, 20);
        high.mend(0, 7, 99);
        high.mend(0, 8, 9);
        high.mend(4, 5, 8);
        high.mend(0, 0, 199);
        due(high.where(4, 2), 179);
        high.mend(0, 3, 91);
        due(high.hide(4), 162);
        high.mend(0, 3, 90);
        due(high.hide(4), NOT);
        tell(high, "b=160?52;0");
        due(high.hide(4), NOT);
    }

    // ---- FIT, WEAR

    @Sentence({"FIT: the least NECK (20 .. 60) with which a tie HANGS RIGHT by some b in a KNOT, the greatest; NOT.",
        "the least NECK (20 .. 60)"})
    void fitsNecks() {
        for (int neck = 20; neck <= 60; neck++) {
            EndTooLong alone = bare(50 + neck);
            tell(alone, "n=" + neck + "?0;60");
            due("NECK " + neck + " alone", alone.fit(0, 0), neck);
            due("NECK " + neck + " alone", alone.fit(0, 1), neck);
            due(alone.of(0, 6), 38);
        }
        EndTooLong x = bare(120);
        tell(x, "n=20|n=60?0;60");
        due(x.fit(0, 0), 20);
        due(x.fit(0, 1), 60);
        tell(x, "n=30|n=40|n=50?0;60");
        due(x.fit(0, 0), 30);
        due(x.fit(0, 1), 50);
        tell(x, "n<20|n>60?0;60");
        due(x.fit(0, 0), NOT);
        due(x.fit(0, 1), NOT);
        // By some b: one alone is enough, THIN 0 at 49.
        tell(x, "0");
        x.mend(0, 0, 49 + 25);
        due(x.fit(0, 0), 20);
        due(x.fit(0, 1), 25);
    }

    @Sentence("WEAR: the greatest WORN (0 .. 99) from 0 on, without a break, by which it HANGS RIGHT by one b; NOT (0 does not).")
    void wornWithoutABreak() {
        EndTooLong x = one();
        due(x.wear(1, 62), NOT);
        // 63: BROAD 51 by WORN 0, 52 from 10 on.
        due(x.wear(1, 63), 9);
        x.mend(0, 4, 50);
        due(x.wear(1, 63), 9);
        due(x.hangs(1, 63, 2), 0);
        due(x.of(0, 4), 50);
        tell(x, "12");
        due(x.wear(1, 63), 99);
        tell(x, "w=0?60;12");
        due(x.wear(1, 63), NOT);
        tell(x, "w=1?60;12");
        due(x.wear(1, 63), 0);
        tell(x, "w=30?60;12");
        due(x.wear(1, 63), 29);
        tell(x, "w=99?60;12");
        due(x.wear(1, 63), 98);
        tell(x, "w=98?60;12");
        due(x.wear(1, 63), 97);
        // By the one b that is told, at both ends.
        due(x.wear(1, 0), NOT);
        due(x.wear(1, 200), NOT);
    }
}
