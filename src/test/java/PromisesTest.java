/** Each promise of the document by hand: ordinary calls, the edges that it names, and wrong inputs. */
public final class PromisesTest {
    private static final int BAD = -1, NOT = -2, FULL = -3, STATE = -5, VOID = -2000000000;
    private static final int LEAST = Integer.MIN_VALUE, MOST = Integer.MAX_VALUE;
    private int wrong;
    private int promise;

    private PromisesTest() {
    }

    public static void main(String[] args) {
        PromisesTest test = new PromisesTest();
        test.all();
        System.out.println(test.wrong == 0 ? "all promises are kept" : test.wrong + " answers are not as due");
        if (test.wrong != 0) {
            System.exit(1);
        }
    }

    private void all() {
        tiesKnotsTiers();
        laws();
        inThought();
        dressing();
        triesReadBack();
        inDeed();
        acts();
        shelves();
    }

    private void due(long got, long want) {
        if (got != want) {
            wrong++;
            StackTraceElement at = new Throwable().getStackTrace()[1];
            System.out.println("promise " + promise + ", line " + at.getLineNumber() + ": " + got + ", due is " + want);
        }
    }

    // ---- promises 1 to 8

    private void tiesKnotsTiers() {
        promise1();
        promise2();
        promise3();
        promise4();
        promise5();
        promise6();
        promise7();
        promise8();
    }

    private void promise1() {
        promise = 1;
        EndTooLong x = new EndTooLong();
        for (int what = 0; what <= 5; what++) {
            due(x.count(what), 0);
        }
        for (int knot = 0; knot < 5; knot++) {
            due(x.of(knot, 5), 2 * knot + 1);
        }
        due(x.of(0, 6), 38);
        due(x.of(0, 7), 50);
        due(x.of(0, 8), 1);
        due(x.led(3), VOID);
        for (int shelf = 0; shelf < 6; shelf++) {
            due(x.put(shelf, 0, 0), -11);
        }
        due(x.back(), STATE);
        due(x.undo(), STATE);
        due(x.redo(), STATE);
    }

    private void promise2() {
        promise = 2;
        EndTooLong x = new EndTooLong();
        due(x.tie(39, 1), BAD);
        due(x.tie(201, 1), BAD);
        due(x.tie(40, 0), BAD);
        due(x.tie(40, 10), BAD);
        due(x.tie(LEAST, MOST), BAD);
        due(x.tie(40, 1), 0);
        due(x.tie(200, 9), 1);
        due(x.of(1, 0), 200);
        due(x.of(1, 1), 9);
        due(x.of(1, 2), 0);
        due(x.of(1, 3), 200);
        due(x.of(1, 4), 0);
        due(x.of(1, 12), 0);
        for (int i = 2; i < 8; i++) {
            due(x.tie(100, 5), i);
        }
        due(x.tie(100, 5), FULL);
        due(x.tie(39, 5), BAD);
        due(x.count(0), 8);
    }

    private void promise3() {
        promise = 3;
        EndTooLong x = new EndTooLong();
        due(x.ties(6, 0, 1), BAD);
        due(x.ties(-1, 0, 1), BAD);
        due(x.ties(0, 0, 0), BAD);
        due(x.ties(0, 0, 9), BAD);
        due(x.ties(0, 0, 8), 0);
        x.row(0, 0, 9);
        due(x.ties(0, 0, 1), -12);
        due(x.ties(0, 0, 0), BAD);
        x.body(0);
        x.keep(0, 0);
        due(x.ties(0, 0, 1), -12);
        shorts(x, 0, 7, 40, 1, 0, 200, 9, 9, 100, 5);
        due(x.ties(0, 9, 1), 0);
        due(x.ties(0, MOST, 8), 0);
        due(x.ties(0, LEAST, 8), 0);
        due(x.ties(0, 1, 8), 2);
        due(x.of(1, 0), 200);
        due(x.of(1, 1), 9);
        due(x.of(1, 2), 9);
        due(x.of(1, 3), 200);
        due(x.ties(0, 1, 1), 1);
        due(x.count(0), 3);
        shorts(x, 1, 50, 1, 1, 50, 0, 1, 50, 1, 1);
        due(x.ties(1, 0, 3), 1);
        shorts(x, 1, 50, 1, 1, 50, 1, 10, 50, 1, 1);
        due(x.ties(1, 0, 3), 1);
        due(x.ties(1, 3, 1), 0);
        shorts(x, 1, 60, 1, 1, 60, 2, 1, 60, 3, 1, 60, 4, 1, 60, 5, 1);
        due(x.ties(1, 0, 5), 3);
        due(x.ties(1, 0, 5), 0);
        due(x.count(0), 8);
        due(x.of(7, 1), 3);
        due(x.count(3), 0);
        EndTooLong y = new EndTooLong();
        shorts(y, 0, 60, 1, 1, 60, 2, 1);
        due(y.ties(0, 4, 1), 0);
        due(y.ties(0, 3, 1), 1);
        due(y.ties(0, 0, 8), 2);
    }

    private void promise4() {
        promise = 4;
        EndTooLong x = new EndTooLong();
        for (int ps : new int[] {0, 1, 10, 15, 19, 90, 95, 101, 104, -11, LEAST, MOST}) {
            due(x.tier(ps, 0), BAD);
        }
        due(x.tier(11, -1), BAD);
        due(x.tier(11, 201), BAD);
        due(x.tier(11, 0), 0);
        due(x.tier(94, 200), 1);
        due(x.of(1, 9), 9);
        due(x.of(1, 10), 4);
        due(x.of(1, 11), 200);
        for (int i = 2; i < 6; i++) {
            due(x.tier(23, 70), i);
        }
        due(x.tier(23, 70), FULL);
        due(x.tier(25, 70), BAD);
        due(x.count(1), 6);
    }

    private void promise5() {
        promise = 5;
        EndTooLong x = new EndTooLong();
        x.tie(100, 5);
        x.tier(11, 7);
        int[] least = {40, 1, 0, 0, 0, 1, 20, 10, 0, 1, 1, 0};
        int[] most = {200, 9, 9, 200, 99, 9, 60, 99, 9, 9, 4, 200};
        for (int what = 0; what <= 11; what++) {
            int was = x.of(0, what);
            due(x.mend(0, what, least[what] - 1), BAD);
            due(x.mend(0, what, most[what] + 1), BAD);
            due(x.of(0, what), was);
            due(x.mend(0, what, most[what]), was);
            due(x.mend(0, what, least[what]), most[what]);
            due(x.of(0, what), least[what]);
            due(x.mend(-1, what, least[what]), BAD);
            due(x.mend(what == 5 ? 5 : 1, what, least[what]), BAD);
        }
        due(x.mend(0, 12, 1), BAD);
        due(x.mend(0, -1, 1), BAD);
        due(x.mend(0, MOST, 1), BAD);
        due(x.mend(4, 5, 3), 9);
        due(x.of(4, 5), 3);
        int changes = x.count(3);
        due(x.mend(4, 5, 3), 3);
        due(x.count(3), changes);
    }

    private void promise6() {
        promise = 6;
        EndTooLong x = new EndTooLong();
        for (int what = 0; what <= 13; what++) {
            due(x.of(-1, what), BAD);
            due(x.of(8, what), BAD);
            due(x.of(LEAST, what), BAD);
        }
        due(x.of(0, 0), BAD);
        due(x.of(0, 9), BAD);
        due(x.of(0, 12), BAD);
        x.tie(77, 6);
        x.tier(11, 0);
        due(x.of(0, 0), 77);
        due(x.of(0, 1), 6);
        due(x.of(0, 12), 0);
        due(x.of(0, 13), BAD);
        due(x.of(0, -1), BAD);
        due(x.of(1, 6), BAD);
        due(x.of(1, 7), BAD);
        due(x.of(1, 8), BAD);
        x.tieOn(0, 50);
        due(x.of(0, 12), 1);
        due(x.of(0, 4), 1);
    }

    private void promise7() {
        promise = 7;
        EndTooLong x = new EndTooLong();
        due(x.feed(-1), BAD);
        due(x.feed(256), BAD);
        due(x.feed(0), 1);
        due(x.feed(255), 2);
        for (int i = 3; i <= 120; i++) {
            due(x.feed('1'), i);
        }
        due(x.feed('1'), FULL);
        due(x.feed(256), BAD);
        due(x.count(2), 120);
    }

    private void promise8() {
        promise = 8;
        EndTooLong x = new EndTooLong();
        x.tie(100, 2);
        due(x.law(), -100);
        due(tell(x, "7"), 1);
        due(x.count(2), 0);
        due(x.hangs(0, 20, 3), 7);
        due(tell(x, "8+"), -102);
        due(x.count(2), 0);
        due(x.hangs(0, 20, 3), 7);
        due(x.law(), -100);
        due(x.hangs(0, 20, 3), 7);
        due(x.undo(), STATE);
        for (int i = 0; i < 59; i++) {
            x.feed('1');
            x.feed('+');
        }
        x.feed('b');
        due(x.feed('0'), 120);
        due(x.law(), -100 - 119);
        for (int i = 0; i < 59; i++) {
            x.feed('1');
            x.feed('-');
        }
        x.feed('5');
        x.feed('9');
        due(x.law(), 1);
        due(x.hangs(0, 20, 3), 0);
    }

    // ---- THE LAW: its faults and what it gives

    private void laws() {
        promise = 8;
        String[] texts = {
            "t", "t*k+t-s", "1?2;3", "t>3?9;k<2?1;0", "(t|k)&(s=0)", "!t", "-t", "--t", "!-!t", "9999", "0000", "!!!!!!t",
            "((((((t))))))", "-(-(-(1)))", "(-1+2)*-3", "1<2&3>2|0", "1<2|1<2", "(1<2)<3", "1;2;3", "!!!(!(t))",
        };
        for (String text : texts) {
            due(tell(new EndTooLong(), text), 1);
        }
        fault("", 0);
        fault(" ", 0);
        fault("t ", 1);
        fault("x", 0);
        fault("tt", 1);
        fault("t1", 1);
        fault("1t", 1);
        fault("12345", 4);
        fault("t;", 2);
        fault(";t", 0);
        fault("t;;t", 2);
        fault("t?", 2);
        fault("?t", 0);
        fault("t?k?s", 3);
        fault("(t?k)", 2);
        fault("(t;k)", 2);
        fault("t)", 1);
        fault("(t", 2);
        fault("()", 1);
        fault("1<2<3", 3);
        fault("1<2=3", 3);
        fault("1<2+3>4", 5);
        fault("t+", 2);
        fault("t++k", 2);
        fault("t*/k", 2);
        fault("t+-k*", 5);
        fault("|t", 0);
        fault("t||k", 2);
        fault("t!", 1);
        fault("t!=k", 1);
        fault("!!!!!!!t", 6);
        fault("(((((((t", 6);
        fault("-!(-!(-t", 6);
        fault("!(!(!(t)-!!!!s", 11);
        fault("t+K", 2);
        fault("1?!!!!!!!t", 8);
        fault("t;1?(t;", 6);
        fault("1(", 1);
        fault("(1)(", 3);
        fault("(1)2", 3);
        gives("t", 4);
        gives("k", 3);
        gives("s", 2);
        gives("w/5", 5);
        gives("n", 38);
        gives("b", 30);
        gives("b+30", 60);
        gives("b+31", 60);
        gives("b*b", 60);
        gives("0-1", 0);
        gives("-1", 0);
        gives("--7", 7);
        gives("2+3*4", 14);
        gives("(2+3)*4", 20);
        gives("20-3-4", 13);
        gives("40/4/2", 5);
        gives("40/4*2", 20);
        gives("17%10*2", 14);
        gives("9-17%10", 2);
        gives("10-(0-7)/2", 13);
        gives("10+(0-7)%4", 7);
        gives("10+-7%4", 7);
        gives("7/0", 0);
        gives("9+7/0", 9);
        gives("9+7%0", 9);
        gives("!0", 1);
        gives("!5", 0);
        gives("!5+1", 1);
        gives("3|0", 1);
        gives("0|0", 0);
        gives("3&5", 1);
        gives("1&1", 1);
        gives("1?0|1", 1);
        gives("1?!!!!!!t", 1);
        gives("1|0?1<2;9", 1);
        gives("3&0", 0);
        gives("0&0|1", 1);
        gives("1|0&0", 1);
        gives("3<4", 1);
        gives("4<4", 0);
        gives("4=4", 1);
        gives("4>3", 1);
        gives("3>3", 0);
        gives("1+2<4", 1);
        gives("(3>2)+(3>1)", 2);
        gives("0?5;7", 7);
        gives("1?5;7", 5);
        gives("-1?5;7", 5);
        gives("0?5", 0);
        gives("0?5;0?6", 0);
        gives("0?5;3?6;7", 6);
        gives("5;6", 5);
        gives("t=4?11;12", 11);
        gives("9999*9999*9999>0", 0);
        gives("9999*9999*22>0", 0);
        gives("9999*9999*21>0", 1);
        // 99980001 * 22 wraps to -2095407274.
        gives("(9999*9999*22)/9999/9999+30", 10);
    }

    private void fault(String text, int place) {
        EndTooLong x = new EndTooLong();
        due(tell(x, text), -100 - place);
        due(x.count(2), 0);
    }

    /** By THICK 4, TURNS 3, SLIPS 2, WORN 25, NECK 38, b 30. */
    private void gives(String text, int cloth) {
        EndTooLong x = new EndTooLong();
        x.tie(120, 4);
        x.mend(0, 2, 2);
        x.mend(0, 4, 25);
        due(tell(x, text), 1);
        due(x.hangs(1, 30, 3), cloth);
        due(x.hangs(1, 30, 0), 30 - cloth);
    }

    private static int tell(EndTooLong x, String text) {
        for (int i = 0; i < text.length(); i++) {
            x.feed(text.charAt(i));
        }
        return x.law();
    }

    private static void shorts(EndTooLong x, int shelf, int... values) {
        fill(x, shelf, 1, values);
    }

    private static void bytes(EndTooLong x, int shelf, int... values) {
        fill(x, shelf, 0, values);
    }

    private static void fill(EndTooLong x, int shelf, int sort, int... values) {
        x.row(shelf, sort, values.length);
        for (int i = 0; i < values.length; i++) {
            x.put(shelf, i, values[i]);
        }
    }

    // ---- promises 9 to 18

    private void inThought() {
        promise9();
        promise10();
        promise11();
        promise12();
        promise13();
        promise14();
        promise15();
        promise16();
        promise17();
        promise18();
        wrongTies();
    }

    private void promise9() {
        promise = 9;
        EndTooLong x = new EndTooLong();
        x.tie(150, 3);
        due(x.hangs(1, 70, 0), 58);
        due(x.hangs(1, 70, 1), 42);
        due(x.hangs(1, 70, 2), 0);
        due(x.hangs(1, 70, 3), 12);
        due(x.hangs(1, 63, 2), 1);
        due(x.hangs(1, 62, 2), 0);
        due(x.hangs(1, 0, 0), -12);
        due(x.hangs(1, 200, 1), -88);
        due(x.hangs(1, -1, 0), VOID);
        due(x.hangs(1, 201, 0), VOID);
        due(x.hangs(1, 0, -1), VOID);
        due(x.hangs(1, 0, 4), VOID);
        x.mend(0, 8, 0);
        due(x.hangs(1, 63, 2), 0);
        x.mend(0, 7, 51);
        due(x.hangs(1, 63, 2), 1);
        // THIN may be 0, not below, and must be less than BROAD.
        x.mend(0, 0, 101);
        due(x.hangs(1, 63, 1), 0);
        due(x.hangs(1, 63, 2), 1);
        x.mend(0, 0, 100);
        due(x.hangs(1, 63, 2), 0);
        x.mend(0, 0, 152);
        due(x.hangs(1, 63, 1), 51);
        due(x.hangs(1, 63, 2), 0);
        x.mend(0, 0, 151);
        due(x.hangs(1, 63, 2), 1);
        // Without a text: t k + t - s - w / 10, 0 at least and with no upper hold.
        x.mend(0, 1, 9);
        due(x.hangs(4, 100, 3), 90);
        x.mend(0, 2, 9);
        x.mend(0, 4, 19);
        due(x.hangs(4, 100, 3), 80);
        x.mend(0, 1, 1);
        due(x.hangs(0, 100, 3), 0);
        x.mend(0, 2, 0);
        x.mend(0, 4, 9);
        due(x.hangs(0, 100, 3), 2);
        eightTies();
    }

    private void eightTies() {
        EndTooLong x = new EndTooLong();
        for (int tie = 0; tie < 8; tie++) {
            x.tie(100 + tie, 1 + tie);
        }
        for (int tie = 0; tie < 8; tie++) {
            for (int knot = 0; knot < 5; knot++) {
                due(x.hangs(10 * tie + knot, 50, 3), (1 + tie) * (2 * knot + 2));
                due(x.hangs(10 * tie + knot, 50, 1), 12 + tie);
                due(x.tieOn(10 * tie + knot, 50), 50 - (1 + tie) * (2 * knot + 2));
            }
            due(x.of(tie, 12), 5);
        }
        due(x.hangs(80, 50, 3), VOID);
    }

    private void promise10() {
        promise = 10;
        EndTooLong x = new EndTooLong();
        x.tie(150, 3);
        due(x.where(1, 0), 63);
        due(x.where(1, 1), 1);
        due(x.where(1, 2), 63);
        due(x.where(2, 0), 67);
        due(x.where(2, 1), 3);
        due(x.where(2, 2), 69);
        due(x.where(0, 0), NOT);
        due(x.where(0, 1), 0);
        due(x.where(0, 2), NOT);
        due(x.where(0, -1), BAD);
        due(x.where(0, 3), BAD);
        // A text that looks at b may leave a break: BROAD is 50 at 50 and again at 90.
        x.mend(0, 0, 128);
        tell(x, "b=50?0;b=90?40;60");
        due(x.where(0, 0), 50);
        due(x.where(0, 1), 2);
        due(x.where(0, 2), 90);
        // The ends of 0 .. 200.
        x.mend(0, 0, 200);
        x.mend(0, 6, 20);
        x.mend(0, 7, 99);
        tell(x, "b=180?81;60");
        due(x.where(0, 0), 158);
        due(x.where(0, 2), 160);
    }

    private void promise11() {
        promise = 11;
        EndTooLong x = new EndTooLong();
        x.tie(150, 3);
        due(x.knot(0, 0), 2);
        due(x.knot(0, 1), 4);
        x.mend(2, 5, 9);
        due(x.knot(0, 1), 2);
        x.mend(0, 5, 9);
        due(x.knot(0, 0), 0);
        due(x.knot(0, 1), 0);
        // RIGHT by one b alone, and by one TURN alone.
        tell(x, "k=1?0;60");
        x.mend(3, 5, 1);
        x.mend(0, 8, 0);
        x.mend(0, 0, 137);
        x.mend(0, 6, 60);
        due(x.where(3, 1), 1);
        due(x.knot(0, 0), 3);
        due(x.knot(0, 1), 3);
        x.mend(0, 0, 40);
        due(x.knot(0, 0), NOT);
        due(x.knot(0, 1), NOT);
        due(x.knot(0, 2), BAD);
        due(x.knot(0, -1), BAD);
        due(x.knot(1, 0), BAD);
        due(x.knot(-1, 0), BAD);
    }

    private void promise12() {
        promise = 12;
        EndTooLong x = new EndTooLong();
        x.tie(150, 3);
        // 70: 58, 8 down; 62: 50 and 50, not RIGHT, 1 up; 63.
        due(x.correct(1, 701, 0), 3);
        due(x.correct(1, 701, 1), 63);
        due(x.correct(1, 631, 0), 1);
        due(x.correct(1, 631, 1), 63);
        // 64: 52; a third of 2 is 0, so 1 down.
        due(x.correct(1, 643, 0), 2);
        due(x.correct(1, 643, 1), 63);
        // 55 by 4: 43, 7 / 4 = 1; 56 .. 58 likewise; 59: 47, 0, so 1 up; .. 63.
        due(x.correct(1, 554, 0), 9);
        due(x.correct(1, 0, 0), BAD);
        due(x.correct(1, 5, 0), BAD);
        due(x.correct(1, 2011, 0), BAD);
        due(x.correct(1, -1, 0), BAD);
        due(x.correct(1, -9, 0), BAD);
        due(x.correct(1, 11, 2), BAD);
        due(x.correct(1, 11, -1), BAD);
        due(x.correct(0, 501, 0), NOT);
        due(x.correct(0, 501, 1), NOT);
        // BROAD 9, 1 up each try, till 69: from 10 on that is the 60th try, from 9 on it is one too many.
        x.mend(0, 7, 10);
        x.mend(0, 8, 0);
        x.mend(0, 0, 107);
        tell(x, "b<69?b-9;59");
        due(x.correct(1, 101, 0), 60);
        due(x.correct(1, 101, 1), 69);
        due(x.correct(1, 91, 0), NOT);
        due(x.correct(1, 91, 1), NOT);
        // From either end of 0 .. 200: 0 up to 99, 200 down to 99, and from there to 159.
        x.mend(0, 7, 99);
        x.mend(0, 0, 200);
        x.mend(0, 6, 20);
        tell(x, "b=0|b=200?0;60");
        due(x.correct(1, 1, 0), 3);
        due(x.correct(1, 1, 1), 159);
        due(x.correct(1, 2001, 0), 3);
        due(x.correct(1, 2001, 1), 159);
    }

    private void promise13() {
        promise = 13;
        EndTooLong x = new EndTooLong();
        x.tie(150, 3);
        due(x.share(1, 70), 1);
        due(x.share(1, 63), 1);
        // From 65: by 1 to 62, then 63 (3 tries); by 2: 53, 3 / 2 = 1, 64, 1, 63 (3); by 1 is the least of the like.
        due(x.share(1, 65), 1);
        // From 66: 54 by 1: 62, 63: 3 tries; by 2: 64, 63: 3; by 3: 65, 64, 63: 4.
        due(x.share(1, 66), 1);
        // b is RIGHT from where half of the way leads to, while the whole way does not.
        x.mend(0, 0, 128);
        x.mend(0, 8, 0);
        tell(x, "b=60?0;b=55?5;20");
        due(x.share(0, 60), 2);
        // From 62 on 59 is reached by a fourth of the way, 60 by a fifth (no SHARE); all else runs up beyond 90.
        tell(x, "b=62?0;b=59?9;60");
        due(x.share(0, 62), 4);
        tell(x, "b=62?0;b=60?10;60");
        due(x.share(0, 62), NOT);
        due(x.share(0, 201), BAD);
        due(x.share(0, -1), BAD);
        x.mend(0, 0, 40);
        due(x.share(0, 10), NOT);
    }

    private void promise14() {
        promise = 14;
        EndTooLong x = new EndTooLong();
        x.tie(150, 3);
        due(x.bow(1, 0), 62);
        due(x.bow(1, 1), 0);
        // 151: BROAD b - 12, THIN 113 - b: 62 and 63 are both 1 apart.
        x.mend(0, 0, 151);
        due(x.bow(1, 0), 62);
        due(x.bow(1, 1), 1);
        // Nothing between 0 and 200 is near: LONG 40, NECK 60: THIN is below 0 everywhere.
        x.mend(0, 0, 40);
        x.mend(0, 6, 60);
        tell(x, "0");
        due(x.bow(1, 0), 0);
        due(x.bow(1, 1), 20);
        due(x.bow(1, 2), BAD);
        due(x.bow(1, -1), BAD);
    }

    private void promise15() {
        promise = 15;
        EndTooLong x = new EndTooLong();
        x.tie(150, 3);
        x.mend(0, 3, 50);
        due(x.stain(1, 62), 1);
        due(x.stain(1, 61), 2);
        due(x.stain(1, 50), 2);
        due(x.stain(1, 49), 0);
        x.mend(0, 3, 0);
        due(x.stain(1, 0), 2);
        due(x.stain(1, 12), 1);
        due(x.stain(1, 11), 2);
        due(x.stain(1, -1), BAD);
        due(x.stain(1, 201), BAD);
        tell(x, "0");
        x.mend(0, 3, 200);
        due(x.stain(1, 199), 0);
        due(x.stain(1, 200), 1);
    }

    private void promise16() {
        promise = 16;
        EndTooLong x = new EndTooLong();
        x.tie(150, 3);
        // KNOT 2 takes 18, RIGHT at 67 .. 69 with BROAD 49 .. 51.
        due(x.hide(2), 67);
        x.mend(0, 3, 50);
        due(x.hide(2), 67);
        x.mend(0, 3, 49);
        due(x.hide(2), NOT);
        // The first RIGHT b shows it, a later one does not.
        tell(x, "b=67?16;b=68?19;18");
        x.mend(0, 3, 50);
        due(x.hide(2), 68);
        due(x.hide(0), 68);
    }

    private void promise17() {
        promise = 17;
        EndTooLong x = new EndTooLong();
        x.tie(150, 3);
        due(x.fit(1, 0), 37);
        due(x.fit(1, 1), 60);
        due(x.of(0, 6), 38);
        // BROAD 51 at b 81 at most: THIN is 0 at least as long as LONG less NECK is 79 at least.
        x.mend(0, 0, 120);
        due(x.fit(4, 0), 20);
        due(x.fit(4, 1), 41);
        x.mend(0, 0, 40);
        due(x.fit(4, 0), NOT);
        due(x.fit(4, 1), NOT);
        due(x.fit(4, 2), BAD);
        due(x.fit(4, -1), BAD);
        // The text sees the NECK that is tried.
        x.mend(0, 0, 150);
        tell(x, "n=40|n=45?12;n>45?60;0");
        due(x.fit(4, 0), 40);
        due(x.fit(4, 1), 45);
        tell(x, "n=60?12;n<45?0;60");
        due(x.fit(4, 0), 60);
        due(x.fit(4, 1), 60);
        tell(x, "n=20?40;n<45?0;60");
        due(x.fit(4, 0), 20);
        due(x.fit(4, 1), 20);
    }

    private void promise18() {
        promise = 18;
        EndTooLong x = new EndTooLong();
        x.tie(150, 3);
        due(x.wear(1, 62), NOT);
        // 63: BROAD 51 by WORN 0, 52 from 10 on.
        due(x.wear(1, 63), 9);
        x.mend(0, 4, 50);
        due(x.wear(1, 63), 9);
        due(x.of(0, 4), 50);
        tell(x, "12");
        due(x.wear(1, 63), 99);
        tell(x, "w=30?60;12");
        due(x.wear(1, 63), 29);
        tell(x, "w=0?60;12");
        due(x.wear(1, 63), NOT);
        due(x.wear(1, -1), BAD);
        due(x.wear(1, 201), BAD);
    }

    private void wrongTies() {
        EndTooLong x = new EndTooLong();
        x.tie(150, 3);
        for (int tk : new int[] {-1, -10, 5, 9, 10, 80, LEAST, MOST}) {
            promise = 9;
            due(x.hangs(tk, 0, 0), VOID);
            promise = 10;
            due(x.where(tk, 0), BAD);
            promise = 12;
            due(x.correct(tk, 11, 0), BAD);
            promise = 13;
            due(x.share(tk, 0), BAD);
            promise = 14;
            due(x.bow(tk, 0), BAD);
            promise = 15;
            due(x.stain(tk, 0), BAD);
            promise = 16;
            due(x.hide(tk), BAD);
            promise = 17;
            due(x.fit(tk, 0), BAD);
            promise = 18;
            due(x.wear(tk, 0), BAD);
            promise = 29;
            due(x.tieOn(tk, 0), VOID);
        }
    }

    // ---- promises 19 to 23

    private void dressing() {
        promise19();
        promise20();
        promise21();
        promise22();
        promise23();
        wrongRowsOfTies();
    }

    private void promise19() {
        promise = 19;
        EndTooLong x = new EndTooLong();
        x.tie(150, 3);
        due(x.takes(0, 1), BAD);
        x.tier(21, 70);
        x.tier(91, 63);
        x.tier(94, 0);
        due(x.takes(0, 1), 6);
        due(x.takes(1, 1), 9);
        due(x.takes(2, 0), 540);
        due(x.takes(3, 1), BAD);
        due(x.takes(-1, 1), BAD);
        due(x.takes(0, 10), BAD);
        due(x.takes(0, 5), BAD);
        due(x.takes(0, -1), BAD);
    }

    private void promise20() {
        promise = 20;
        EndTooLong x = new EndTooLong();
        int[] none = {};
        bytes(x, 0, none);
        due(x.six(0, 0, -1), NOT);
        due(x.six(0, 0, 0), NOT);
        x.tier(21, 63);
        due(x.six(0, 0, -1), 0);
        due(x.six(0, 0, 0), NOT);
        x.tie(150, 3);
        x.tie(150, 3);
        x.tie(150, 3);
        x.tier(31, 63);
        // In KNOT 1 each takes one try: 2 minutes by TIER 0, 3 by TIER 1.
        bytes(x, 0, 2, 0, 1);
        due(x.six(0, 1, -1), 4);
        due(x.six(0, 1, 0), 0);
        due(x.six(0, 1, 1), 1);
        due(x.six(0, 1, 2), 0);
        due(x.six(0, 1, 3), NOT);
        due(x.six(0, 1, MOST), NOT);
        due(x.six(0, 1, -2), BAD);
        // What is no tie that is there, and one that comes again, ends the ties of the row.
        for (int end : new int[] {-1, 3, 100, -128, 1, 0}) {
            bytes(x, 0, 1, 0, end, 2);
            due(x.six(0, 1, -1), 3);
            due(x.six(0, 1, 1), 1);
            due(x.six(0, 1, 2), NOT);
        }
        bytes(x, 0, 3, 0, 1);
        due(x.six(0, 1, -1), 0);
        due(x.six(0, 1, 0), NOT);
        // It is there as soon as it has come, and the row goes on.
        bytes(x, 0, 0, 3, 1);
        due(x.six(0, 1, 1), NOT);
        x.tie(150, 3);
        due(x.six(0, 1, 1), 1);
        due(x.six(0, 1, 2), 0);
        // Of like ones the least: both are free at 6.
        bytes(x, 0, 0, 1, 2);
        x.mend(1, 9, 2);
        due(x.six(0, 1, 2), 0);
        for (int i = 4; i < 8; i++) {
            x.tie(150, 3);
        }
        bytes(x, 0, 7, 6, 5, 4, 3, 2, 1, 0);
        due(x.six(0, 1, -1), 6);
        due(x.six(0, 1, 5), 1);
        due(x.six(0, 1, 6), NOT);
    }

    private void promise21() {
        promise = 21;
        EndTooLong x = new EndTooLong();
        bytes(x, 0, 0, 1);
        due(x.order(0, 0, -1), NOT);
        due(x.order(0, 0, 0), NOT);
        due(x.order(0, 0, -2), BAD);
        // Ties of 1, 1 and 60 minutes, whoever ties them: the long one belongs to the front.
        x.tie(140, 1);
        x.tie(140, 1);
        x.tie(40, 1);
        x.tier(11, 53);
        x.tier(11, 53);
        tell(x, "2");
        bytes(x, 0, 0, 1, 2);
        due(x.six(0, 0, -1), 61);
        due(x.order(0, 0, -1), 60);
        // By places: 0 1 2 gives 61; 0 2 1 gives 60 and comes first.
        due(x.order(0, 0, 0), 0);
        due(x.order(0, 0, 1), 2);
        due(x.order(0, 0, 2), 1);
        due(x.order(0, 0, 3), NOT);
        bytes(x, 0, 1, 0, 2);
        due(x.order(0, 0, 0), 1);
        due(x.order(0, 0, 1), 2);
        due(x.order(0, 0, 2), 0);
        int[] none = {};
        bytes(x, 0, none);
        due(x.order(0, 0, -1), 0);
        due(x.order(0, 0, 0), NOT);
        for (int i = 3; i < 6; i++) {
            x.tie(140, 1);
        }
        bytes(x, 0, 0, 1, 2, 3, 4);
        due(x.order(0, 0, -1), 60);
        // Behind what is not there, or comes again, no sixth one is of the row.
        bytes(x, 0, 0, 1, 2, 3, 4, 4, 5);
        due(x.order(0, 0, -1), 60);
        bytes(x, 0, 0, 1, 2, 3, 4, 6, 5);
        due(x.order(0, 0, -1), 60);
        bytes(x, 0, 0, 1, 7, 2);
        due(x.order(0, 0, -1), 1);
        due(x.order(0, 0, 2), NOT);
        bytes(x, 0, 1, 0, 1, 2);
        due(x.order(0, 0, 0), 1);
        due(x.order(0, 0, 1), 0);
        due(x.order(0, 0, 2), NOT);
        bytes(x, 0, 0, 1, 2, 3, 4, 5);
        due(x.order(0, 0, -1), STATE);
        due(x.order(0, 0, 9), STATE);
        // STATE is named ahead of NOT.
        EndTooLong y = new EndTooLong();
        for (int i = 0; i < 6; i++) {
            y.tie(140, 1);
        }
        bytes(y, 0, 0, 1, 2, 3, 4, 5);
        due(y.order(0, 0, -1), STATE);
        due(y.six(0, 0, -1), NOT);
        deepOrder();
    }

    /**
     * Tie i takes i + 1 tries, and TIER 1 nine times as long: best he ties tie 0 alone, as the second, and tie 4 comes
     * when TIER 0 is free at 9 like him.
     */
    private void deepOrder() {
        EndTooLong x = new EndTooLong();
        for (int i = 0; i < 5; i++) {
            x.tie(120, 5 - i);
        }
        x.mend(0, 8, 0);
        x.tier(14, 55);
        x.tier(94, 55);
        tell(x, "t");
        for (int i = 0; i < 5; i++) {
            due(x.takes(0, 10 * i), i + 1);
            due(x.takes(1, 10 * i), 9 * i + 9);
        }
        bytes(x, 0, 0, 1, 2, 3, 4);
        due(x.order(0, 0, -1), 14);
        int[] up = {1, 0, 2, 3, 4};
        for (int k = 0; k < 5; k++) {
            due(x.order(0, 0, k), up[k]);
        }
        bytes(x, 0, 4, 3, 2, 1, 0);
        due(x.order(0, 0, -1), 14);
        int[] down = {3, 0, 2, 1, 4};
        for (int k = 0; k < 5; k++) {
            due(x.order(0, 0, k), down[k]);
        }
    }

    private void promise22() {
        promise = 22;
        EndTooLong x = new EndTooLong();
        x.tie(40, 3);
        x.tie(150, 3);
        x.tie(150, 3);
        bytes(x, 0, 0, 1, 2);
        due(x.taxi(0, 1, 0), NOT);
        x.tier(11, 63);
        x.tier(21, 63);
        // TIER 0 takes 60 for the first; TIER 1 is done with the others at 2 and 4.
        due(x.taxi(0, 1, 0), 0);
        due(x.taxi(0, 1, 1), 0);
        due(x.taxi(0, 1, 2), 1);
        due(x.taxi(0, 1, 3), 1);
        due(x.taxi(0, 1, 4), 2);
        due(x.taxi(0, 1, 59), 2);
        due(x.taxi(0, 1, 60), 3);
        due(x.taxi(0, 1, 9999), 3);
        bytes(x, 0, 1, 3, 2, 0);
        due(x.taxi(0, 1, 9999), 1);
        bytes(x, 0, 1, 2, 1, 0);
        due(x.taxi(0, 1, 9999), 2);
        bytes(x, 0, 9, 1, 2);
        due(x.taxi(0, 1, 9999), 0);
        due(x.taxi(0, 1, 10000), BAD);
        due(x.taxi(0, 1, -1), BAD);
    }

    private void promise23() {
        promise = 23;
        EndTooLong x = new EndTooLong();
        x.tie(150, 3);
        x.tie(150, 3);
        bytes(x, 0, 0, 1);
        due(x.oneMore(0, 1, 0), VOID);
        x.tier(21, 63);
        x.tier(91, 63);
        // Now 2 and 9 minutes; one more as TIER 0 does not help, as the second goes to TIER 1.
        due(x.oneMore(0, 1, 0), 0);
        due(x.oneMore(0, 1, 2), VOID);
        due(x.oneMore(0, 1, -1), VOID);
        // By 2 minutes each, the third is done at 4, and at 2 with one more.
        x.mend(1, 9, 2);
        x.tie(150, 3);
        bytes(x, 0, 0, 1, 2);
        due(x.oneMore(0, 1, 0), 2);
        bytes(x, 0, 0, 1, 0, 2);
        due(x.oneMore(0, 1, 0), 0);
        bytes(x, 0, 0, 1, 3, 2);
        due(x.oneMore(0, 1, 0), 0);
        int[] none = {};
        bytes(x, 0, none);
        due(x.oneMore(0, 1, 0), 0);
        oneMoreOfSix();
        oneMoreThatHurts();
        oneMoreOfOne();
    }

    private void oneMoreOfSix() {
        EndTooLong x = new EndTooLong();
        for (int i = 0; i < 6; i++) {
            x.tie(150, 3);
            x.tier(i == 0 ? 21 : 11, 63);
        }
        bytes(x, 0, 0, 1, 2, 3, 4, 5);
        due(x.six(0, 1, -1), 2);
        due(x.oneMore(0, 1, 5), 0);
        due(x.count(1), 6);
    }

    private void oneMoreOfOne() {
        EndTooLong x = new EndTooLong();
        x.tier(11, 63);
        for (int i = 0; i < 6; i++) {
            x.tie(150, 3);
        }
        bytes(x, 0, 0, 1, 2, 3, 4, 5);
        due(x.six(0, 1, -1), 6);
        due(x.oneMore(0, 1, 0), 3);
    }

    /** The third tie never hangs right: 60 minutes by TIER 0, 120 by one as TIER 1, who is free first. */
    private void oneMoreThatHurts() {
        EndTooLong x = new EndTooLong();
        x.tie(150, 3);
        x.tie(150, 3);
        x.tie(40, 3);
        x.tier(11, 63);
        x.tier(21, 63);
        bytes(x, 0, 0, 1, 2);
        due(x.six(0, 1, -1), 61);
        due(x.oneMore(0, 1, 1), 61 - 120);
        due(x.oneMore(0, 1, 0), 61 - 60);
    }

    private void wrongRowsOfTies() {
        EndTooLong x = new EndTooLong();
        x.tie(150, 3);
        x.tier(11, 63);
        x.body(0);
        x.keep(1, 0);
        x.row(2, 1, 3);
        x.row(3, 4, 3);
        int[] shelves = {-1, 6, 0, 1, 2, 3};
        int[] answers = {BAD, BAD, -11, -12, -12, -12};
        for (int i = 0; i < shelves.length; i++) {
            promise = 20;
            due(x.six(shelves[i], 0, -1), answers[i]);
            due(x.six(shelves[i], 5, -1), BAD);
            due(x.six(shelves[i], -1, -1), BAD);
            promise = 21;
            due(x.order(shelves[i], 0, -1), answers[i]);
            due(x.order(shelves[i], 5, -1), BAD);
            promise = 22;
            due(x.taxi(shelves[i], 0, 0), answers[i]);
            due(x.taxi(shelves[i], 5, 0), BAD);
            due(x.taxi(shelves[i], 0, -1), BAD);
            promise = 23;
            due(x.oneMore(shelves[i], 0, 0), VOID);
        }
        promise = 23;
        x.row(0, 0, 3);
        due(x.oneMore(0, 5, 0), VOID);
        due(x.oneMore(0, 0, 0), 0);
    }

    // ---- promises 24 to 28

    private void triesReadBack() {
        promise24();
        promise25();
        promise26();
        promise27();
        wrongRowsOfTries();
        promise28();
    }

    private void promise24() {
        promise = 24;
        EndTooLong x = new EndTooLong();
        x.tie(150, 3);
        int[] none = {};
        shorts(x, 0, none);
        due(x.judge(0, 1, 701), NOT);
        shorts(x, 0, 58, 50, 51);
        due(x.judge(0, 1, 701), NOT);
        shorts(x, 0, 58, 50, 51, 51);
        due(x.judge(0, 1, 701), 3);
        shorts(x, 0, 57, 50, 51);
        due(x.judge(0, 1, 701), 0);
        shorts(x, 0, 58, 50, 50, 9);
        due(x.judge(0, 1, 701), 2);
        due(x.judge(0, 1, 702), 1);
        due(x.judge(0, 1, 711), 0);
        shorts(x, 0, -12, 38);
        due(x.judge(0, 1, 1), 1);
        shorts(x, 0, -12, 50);
        due(x.judge(0, 1, 1), NOT);
        due(x.judge(0, 1, 0), BAD);
        due(x.judge(0, 1, 5), BAD);
        due(x.judge(0, 1, 2011), BAD);
        due(x.judge(0, 1, -7), BAD);
        due(x.judge(0, 10, 11), BAD);
        due(x.judge(0, 5, 11), BAD);
        // Sixty tries that never come right.
        x.row(0, 1, 60);
        x.mend(0, 0, 40);
        for (int i = 0; i < 60; i++) {
            x.put(0, i, i == 0 ? 0 : i % 2 == 1 ? 50 : 51);
        }
        due(x.judge(0, 0, 61), NOT);
        x.put(0, 59, 49);
        due(x.judge(0, 0, 61), 59);
    }

    private void promise25() {
        promise = 25;
        EndTooLong x = new EndTooLong();
        x.tie(150, 3);
        int[] none = {};
        shorts(x, 0, none);
        due(x.which(0, 0, 701), 31);
        shorts(x, 0, 58, 50);
        due(x.which(0, 0, 701), 2);
        x.mend(4, 5, 3);
        due(x.which(0, 0, 701), 18);
        shorts(x, 0, 59);
        due(x.which(0, 0, 701), 0);
        due(x.which(0, 1, 701), BAD);
        due(x.which(0, -1, 701), BAD);
        due(x.which(0, 0, 705), BAD);
    }

    private void promise26() {
        promise = 26;
        EndTooLong x = new EndTooLong();
        x.tie(150, 3);
        int[] none = {};
        shorts(x, 0, none);
        due(x.began(0, 1, 1), 0);
        shorts(x, 0, 58, 50);
        due(x.began(0, 1, 1), 70);
        due(x.began(0, 1, 2), NOT);
        shorts(x, 0, 188);
        due(x.began(0, 1, 1), 200);
        shorts(x, 0, 189);
        due(x.began(0, 1, 1), NOT);
        tell(x, "b>20?b-20;0");
        shorts(x, 0, 20);
        due(x.began(0, 1, 4), 20);
        due(x.began(0, 1, 0), BAD);
        due(x.began(0, 1, 5), BAD);
        due(x.began(0, 11, 1), BAD);
    }

    private void promise27() {
        promise = 27;
        EndTooLong x = new EndTooLong();
        x.tie(150, 3);
        int[] none = {};
        shorts(x, 0, none);
        due(x.thickness(0, 1, 701), 1);
        shorts(x, 0, 58, 50);
        due(x.thickness(0, 1, 701), 3);
        shorts(x, 0, 34);
        due(x.thickness(0, 1, 701), 9);
        shorts(x, 0, 30);
        due(x.thickness(0, 1, 701), NOT);
        due(x.of(0, 1), 3);
        due(x.thickness(0, 1, 700), BAD);
        due(x.thickness(0, 15, 701), BAD);
        tell(x, "t/3");
        shorts(x, 0, 68);
        due(x.thickness(0, 1, 701), 6);
    }

    private void wrongRowsOfTries() {
        EndTooLong x = new EndTooLong();
        x.tie(150, 3);
        x.body(0);
        x.keep(1, 0);
        x.row(2, 0, 3);
        x.row(3, 2, 3);
        int[] shelves = {-1, 6, 0, 1, 2, 3};
        int[] answers = {BAD, BAD, -11, -12, -12, -12};
        for (int i = 0; i < shelves.length; i++) {
            promise = 24;
            due(x.judge(shelves[i], 1, 701), answers[i]);
            due(x.judge(shelves[i], 1, 700), BAD);
            promise = 25;
            due(x.which(shelves[i], 0, 701), answers[i]);
            due(x.which(shelves[i], 1, 701), BAD);
            promise = 26;
            due(x.began(shelves[i], 1, 1), answers[i]);
            due(x.began(shelves[i], 1, 0), BAD);
            promise = 27;
            due(x.thickness(shelves[i], 1, 701), answers[i]);
            due(x.thickness(shelves[i], 10, 701), BAD);
        }
    }

    private void promise28() {
        promise = 28;
        EndTooLong x = new EndTooLong();
        x.tie(150, 3);
        due(x.drawn(1, 701, 5, 80), 29);
        due(x.drawn(1, 701, 5, 81), 0);
        // NEAR 9, from 70 on: RIGHT in the first try, whatever is drawn: 57 .. 59.
        x.mend(0, 8, 9);
        due(x.drawn(1, 701, 5, 500), 50);
        due(x.drawn(1, 701, 5, 501), 0);
        x.mend(0, 0, 40);
        due(x.drawn(1, 701, MOST, 500), 3000);
        due(x.drawn(1, 701, LEAST, 501), 50);
        due(x.drawn(1, 701, 5, 10), 60);
        due(x.drawn(1, 701, 5, 11), 1);
        for (int nw : new int[] {0, 1, 9, 12, 19, 502, 510, 511, -10, LEAST, MOST}) {
            due(x.drawn(1, 701, 5, nw), BAD);
        }
        due(x.drawn(1, 700, 5, 10), BAD);
        due(x.drawn(1, 2011, 5, 10), BAD);
        due(x.drawn(11, 701, 5, 10), BAD);
        due(x.drawn(-1, 701, 5, 10), BAD);
        firstDraw();
        sixtiethTry();
    }

    /** 1 up each try, whatever is drawn, and RIGHT at 66 alone: from 7 on that is the 60th try. */
    private void sixtiethTry() {
        EndTooLong x = new EndTooLong();
        x.tie(104, 3);
        x.mend(0, 7, 10);
        tell(x, "b<57?b-9;b<66?b-5;56");
        for (int seed = -3; seed < 4; seed++) {
            due(x.drawn(0, 74, seed, 30), 180);
            due(x.drawn(0, 74, seed, 31), 0);
            due(x.drawn(0, 64, seed, 30), 180);
            due(x.drawn(0, 64, seed, 31), 3);
        }
    }

    /** SEED 0 draws 12345 first: 12345 >>> 8 is 48, and 48 % 3 less 1 is -1: the KNOT takes one less. */
    private void firstDraw() {
        EndTooLong x = new EndTooLong();
        x.tie(150, 3);
        x.mend(0, 8, 0);
        x.mend(0, 7, 59);
        due(x.drawn(1, 701, 0, 10), 1);
        x.mend(0, 7, 70);
        tell(x, "0");
        due(x.drawn(1, 701, 0, 10), 1);
    }

    // ---- promises 29 to 35

    private void inDeed() {
        promise29();
        promise30();
        promise31();
        promise32and33();
        promise34and35();
        fortyChanges();
    }

    private void promise29() {
        promise = 29;
        EndTooLong x = new EndTooLong();
        x.tie(150, 3);
        due(x.tieOn(1, -1), VOID);
        due(x.tieOn(1, 201), VOID);
        due(x.led(0), 0);
        due(x.tieOn(1, 0), -12);
        due(x.tieOn(1, 200), 188);
        due(x.of(0, 4), 2);
        due(x.of(0, 12), 2);
        // WORN counts from the next time on.
        x.mend(0, 4, 9);
        due(x.tieOn(1, 63), 51);
        due(x.tieOn(1, 63), 52);
        x.mend(0, 4, 98);
        x.tieOn(1, 63);
        due(x.of(0, 4), 99);
        x.tieOn(1, 63);
        due(x.of(0, 4), 99);
        due(x.of(0, 12), 6);
    }

    private void promise30() {
        promise = 30;
        EndTooLong x = new EndTooLong();
        due(x.untie(0), BAD);
        x.tie(150, 3);
        x.tie(150, 3);
        due(x.untie(0), 0);
        due(x.untie(-1), BAD);
        due(x.untie(2), BAD);
        x.tieOn(1, 63);
        x.tieOn(2, 63);
        x.tieOn(11, 63);
        due(x.untie(0), 2);
        due(x.of(0, 12), 0);
        due(x.of(0, 4), 2);
        due(x.of(1, 12), 1);
        due(x.untie(0), 0);
        due(x.untie(1), 1);
    }

    private void promise31() {
        promise = 31;
        EndTooLong x = new EndTooLong();
        x.tie(150, 3);
        due(x.led(-1), BAD);
        due(x.led(4), BAD);
        due(x.led(3), VOID);
        due(x.led(2), 0);
        x.untie(1);
        due(x.led(2), 0);
        // A tie that is there is undone, whether or not it was tied.
        x.untie(0);
        due(x.led(2), 1);
        x.tieOn(1, 62);
        x.tieOn(1, 63);
        x.tieOn(1, 40);
        due(x.led(0), 3);
        due(x.led(1), 1);
        due(x.led(2), 1);
        due(x.led(3), 28);
        x.untie(0);
        due(x.led(0), 3);
        due(x.led(2), 2);
        x.untie(0);
        due(x.led(2), 3);
        x.tieOn(1, 0);
        due(x.led(3), -12);
        x.untie(0);
        due(x.led(2), 4);
    }

    private void promise32and33() {
        promise = 33;
        EndTooLong x = new EndTooLong();
        due(x.back(), STATE);
        x.tie(150, 3);
        x.mend(0, 4, 20);
        x.tieOn(1, 63);
        promise = 32;
        due(x.image(), 1);
        x.tie(150, 3);
        x.mend(1, 4, 7);
        x.mend(0, 0, 160);
        x.tieOn(11, 62);
        x.tieOn(1, 0);
        x.untie(0);
        promise = 33;
        due(x.back(), 1);
        due(x.led(0), 1);
        due(x.led(1), 0);
        due(x.led(2), 0);
        due(x.led(3), 53);
        due(x.of(0, 4), 21);
        due(x.of(0, 12), 1);
        due(x.of(0, 0), 160);
        due(x.of(1, 4), 0);
        due(x.of(1, 12), 0);
        due(x.count(0), 2);
        due(x.count(3), 3);
        x.tieOn(1, 0);
        due(x.back(), 1);
        due(x.led(0), 1);
        x.tieOn(11, 10);
        promise = 32;
        due(x.image(), 2);
        x.tieOn(11, 10);
        promise = 33;
        due(x.back(), 2);
        due(x.of(1, 12), 1);
        due(x.of(1, 4), 1);
        EndTooLong y = new EndTooLong();
        y.tie(150, 3);
        y.image();
        y.tieOn(1, 0);
        due(y.back(), 0);
        due(y.led(3), VOID);
    }

    private void promise34and35() {
        promise = 34;
        EndTooLong x = new EndTooLong();
        x.tie(150, 3);
        x.tier(11, 5);
        x.mend(0, 0, 160);
        x.mend(0, 11, 9);
        x.mend(0, 5, 2);
        x.mend(0, 5, 2);
        due(x.count(3), 3);
        due(x.undo(), 2);
        due(x.of(0, 5), 1);
        due(x.undo(), 1);
        due(x.of(0, 11), 5);
        promise = 35;
        due(x.redo(), 1);
        due(x.of(0, 11), 9);
        // What is refused, or no change, or a deed, leaves what may be done again.
        x.mend(0, 0, 39);
        x.mend(0, 0, 160);
        x.tieOn(1, 9);
        x.tie(100, 1);
        due(x.redo(), 0);
        due(x.of(0, 5), 2);
        due(x.redo(), STATE);
        due(x.count(3), 3);
        x.undo();
        x.mend(0, 6, 40);
        due(x.redo(), STATE);
        due(x.count(3), 3);
        promise = 34;
        due(x.undo(), 2);
        due(x.of(0, 6), 38);
        due(x.undo(), 1);
        due(x.undo(), 0);
        due(x.of(0, 0), 150);
        due(x.undo(), STATE);
        promise = 35;
        due(x.redo(), 2);
        due(x.redo(), 1);
        due(x.redo(), 0);
        due(x.of(0, 6), 40);
        // WORN by deed comes between; undone, it is what it was ahead of the change.
        promise = 34;
        x.mend(0, 4, 50);
        x.tieOn(1, 9);
        due(x.of(0, 4), 51);
        x.undo();
        due(x.of(0, 4), 1);
        x.redo();
        due(x.of(0, 4), 50);
    }

    private void fortyChanges() {
        promise = 34;
        EndTooLong x = new EndTooLong();
        x.tie(150, 3);
        for (int i = 1; i <= 43; i++) {
            x.mend(0, 4, i);
        }
        due(x.count(3), 40);
        for (int i = 39; i >= 0; i--) {
            due(x.undo(), i);
        }
        due(x.undo(), STATE);
        due(x.of(0, 4), 3);
        promise = 35;
        for (int i = 39; i >= 0; i--) {
            due(x.redo(), i);
        }
        due(x.redo(), STATE);
        due(x.of(0, 4), 43);
    }

    // ---- promises 36 to 38

    private void acts() {
        promise = 36;
        EndTooLong x = new EndTooLong();
        due(x.body(-1), BAD);
        due(x.body(8), BAD);
        for (int i = 0; i < 50; i++) {
            due(x.body(i % 8), i);
        }
        due(x.body(0), FULL);
        due(x.body(8), BAD);
        due(x.count(4), 50);
        // n is 0 .. 7 here and the KIND, too.
        acted(x, 0, 0, 10, 10, 1);
        acted(x, 0, 1, 10, 20, 10, 1);
        acted(x, 0, 2, 10, 10, 11);
        acted(x, 0, 3, 10, 20 - 1, 2, 10, 1, 11);
        acted(x, 1, 0, 10, 14, 20, 1);
        acted(x, 1, 1, 10, 28, 10, 20, 1);
        acted(x, 1, 2, 10, 11, 11);
        acted(x, 2, 1, 10, -24, 30, 10, 1);
        acted(x, 2, 3, 10, -24 - 3, 2, 30, 10, 1, 11);
        acted(x, 3, 1, 10, -28, 41, 30, 10, 1);
        acted(x, 3, 2, 10, 27, 40, 11);
        acted(x, 3, 3, 10, -28 - 6, 2, 41, 30, 10, 1, 40, 11);
        acted(x, 4, 2, 10, 14 - 9, 50, 11, 20, 1);
        acted(x, 5, 3, 10, (-32 - 12) ^ 5, 60, 2, 41, 30, 10, 1, 40, 11);
        acted(x, 6, 0, 10, 32, 70, 1);
        acted(x, 6, 1, 10, 64, 10, 70, 1);
        acted(x, 6, 2, 10, 12, 11);
        acted(x, 6, 3, 10, 64 - 7, 2, 10, 70, 1, 11);
        acted(x, 7, 1, 10, 40 + (5 - 12), 80, 10, 20, 1, 50, 11, 20, 1);
        acted(x, 7, 3, 10, 33 - (6 - 12) - 1, 81, 2, 80, 10, 20, 1, 50, 11, 20, 1, 50, 11, 20, 1);
        acted(x, 49, 0, MOST, LEAST + 48 + 3, 20, 1);
        acted(x, 0, 1, 1 << 30, LEAST, 10, 1);
        promise = 37;
        x.act(7, 3, 10);
        due(x.act(50, 0, 1), 0);
        due(x.count(5), 0);
        due(x.trace(0), BAD);
        x.act(7, 3, 10);
        due(x.act(-1, 0, 1), 0);
        due(x.count(5), 0);
        x.act(7, 3, 10);
        due(x.act(0, 4, 1), 0);
        due(x.count(5), 0);
        x.act(7, 3, 10);
        due(x.act(0, -1, 1), 0);
        due(x.count(5), 0);
    }

    private void acted(EndTooLong x, int body, int act, int with, int answer, int... bodies) {
        promise = 37;
        due(x.act(body, act, with), answer);
        promise = 38;
        due(x.count(5), bodies.length);
        for (int i = 0; i < bodies.length; i++) {
            due(x.trace(i), bodies[i]);
        }
        due(x.trace(bodies.length), BAD);
        due(x.trace(-1), BAD);
        due(x.trace(MOST), BAD);
    }

    // ---- promises 39 to 45

    private void shelves() {
        promise39();
        promise40();
        promise41and42();
        promise43();
        promise44();
        promise45();
    }

    private void promise39() {
        promise = 39;
        EndTooLong x = new EndTooLong();
        due(x.keep(0, 0), BAD);
        due(x.keep(0, -1), 1);
        x.body(3);
        due(x.keep(0, 0), 1);
        due(x.taken(0, 3), 3);
        due(x.keep(0, 1), BAD);
        due(x.keep(0, -2), BAD);
        due(x.keep(6, 0), BAD);
        due(x.keep(-1, -1), BAD);
        due(x.taken(0, 3), 3);
        due(x.keep(0, -1), 1);
        due(x.taken(0, 3), -11);
        x.row(0, 0, 1);
        due(x.keep(0, 0), 1);
        due(x.put(0, 0, 0), -12);
        x.row(0, 0, 1);
        due(x.keep(0, -1), 1);
        due(x.put(0, 0, 0), -11);
    }

    private void promise40() {
        promise = 40;
        EndTooLong x = new EndTooLong();
        due(x.row(-1, 0, 1), BAD);
        due(x.row(6, 0, 1), BAD);
        due(x.row(0, -1, 1), BAD);
        due(x.row(0, 5, 1), BAD);
        due(x.row(0, 0, 61), BAD);
        due(x.row(0, 0, MOST), BAD);
        due(x.row(0, 0, -1), -14);
        due(x.row(0, 0, LEAST), -14);
        due(x.row(0, 5, -1), BAD);
        due(x.put(0, 0, 1), -11);
        due(x.row(0, 0, 60), 1);
        for (int i = 0; i < 60; i++) {
            due(x.put(0, i, 1), 1);
        }
        due(x.row(0, 4, 61), BAD);
        due(x.row(0, 4, -1), -14);
        due(x.element(0, 59), 1);
        due(x.row(0, 3, 60), 1);
        for (int i = 0; i < 60; i++) {
            due(x.element(0, i), 0);
        }
        due(x.row(0, 0, 0), 1);
        due(x.put(0, 0, 1), -13);
    }

    private void promise41and42() {
        EndTooLong x = new EndTooLong();
        x.body(0);
        x.keep(1, 0);
        int[] shelves = {-1, 6, 0, 1};
        int[] answers = {BAD, BAD, -11, -12};
        for (int i = 0; i < shelves.length; i++) {
            promise = 41;
            due(x.put(shelves[i], 0, 1), answers[i]);
            due(x.put(shelves[i], -1, 1), answers[i]);
            promise = 42;
            due(x.element(shelves[i], 0), Long.MIN_VALUE);
        }
        long v = 0x123456789ABCDEF0L;
        long[] kept = {(byte) 0xF0, (short) 0xDEF0, 0x9ABCDEF0, v, 1};
        for (int sort = 0; sort <= 4; sort++) {
            x.row(2, sort, 3);
            promise = 41;
            due(x.put(2, 1, v), 1);
            due(x.put(2, 2, 1L << 40), 1);
            due(x.put(2, 3, v), -13);
            due(x.put(2, -1, v), -13);
            due(x.put(2, LEAST, v), -13);
            promise = 42;
            due(x.element(2, 0), 0);
            due(x.element(2, 1), kept[sort]);
            due(x.element(2, 2), sort == 3 ? 1L << 40 : sort == 4 ? 1 : 0);
            due(x.element(2, 3), Long.MIN_VALUE);
            due(x.element(2, -1), Long.MIN_VALUE);
            x.put(2, 1, -1);
            due(x.element(2, 1), sort == 4 ? 1 : -1);
            x.put(2, 1, 0);
            due(x.element(2, 1), 0);
        }
        x.row(2, 3, 1);
        x.put(2, 0, Long.MIN_VALUE + 1);
        due(x.element(2, 0), Long.MIN_VALUE + 1);
    }

    private void promise43() {
        promise = 43;
        EndTooLong x = new EndTooLong();
        x.body(0);
        x.keep(5, 0);
        fill(x, 0, 2, 1, 2, 3, 4, 5);
        fill(x, 1, 2, 9, 9, 9);
        x.row(2, 3, 5);
        due(x.shift(-1, 0, 0, 0, 1), BAD);
        due(x.shift(0, 0, 6, 0, 1), BAD);
        due(x.shift(6, 0, 4, 0, 1), BAD);
        due(x.shift(4, 0, 5, 0, 1), -11);
        due(x.shift(5, 0, 4, 0, 1), -11);
        due(x.shift(5, 0, 0, 0, 1), -12);
        due(x.shift(0, 0, 5, 0, 1), -12);
        due(x.shift(5, 0, 5, 0, 1), -12);
        due(x.shift(0, 0, 2, 0, 1), -12);
        due(x.shift(0, 0, 2, 9, 1), -12);
        int[][] wrongPlaces = {
            {-1, 0, 1}, {0, -1, 1}, {0, 0, -1}, {0, 0, 4}, {5, 0, 1}, {6, 0, 0}, {0, 4, 0}, {3, 0, 3}, {0, 1, 3},
            {MOST, 0, 1}, {0, MOST, 1}, {1, 1, MOST}, {LEAST, 0, 1}, {0, LEAST, LEAST},
        };
        for (int[] p : wrongPlaces) {
            due(x.shift(0, p[0], 1, p[1], p[2]), -13);
        }
        row(x, 1, 9, 9, 9);
        due(x.shift(0, 5, 1, 3, 0), 0);
        row(x, 1, 9, 9, 9);
        due(x.shift(0, 3, 1, 1, 2), 2);
        row(x, 1, 9, 4, 5);
        row(x, 0, 1, 2, 3, 4, 5);
        due(x.shift(0, 0, 0, 1, 4), 4);
        row(x, 0, 1, 1, 2, 3, 4);
        due(x.shift(0, 1, 0, 0, 4), 4);
        row(x, 0, 1, 2, 3, 4, 4);
        due(x.shift(0, 0, 0, 0, 5), 5);
        row(x, 0, 1, 2, 3, 4, 4);
    }

    private void row(EndTooLong x, int shelf, long... values) {
        for (int i = 0; i < values.length; i++) {
            due(x.element(shelf, i), values[i]);
        }
        due(x.element(shelf, values.length), Long.MIN_VALUE);
    }

    private void promise44() {
        promise = 44;
        EndTooLong x = new EndTooLong();
        String[] under = {"0", "01", "02", "023", "014", "0235", "06", "0147"};
        for (int kind = 0; kind < 8; kind++) {
            x.body(kind);
            x.keep(0, kind);
            for (int k = 0; k < 8; k++) {
                due(x.taken(0, k), under[kind].indexOf('0' + k) >= 0 ? kind : -12);
            }
        }
        due(x.taken(0, -1), BAD);
        due(x.taken(0, 8), BAD);
        due(x.taken(6, 0), BAD);
        due(x.taken(-1, 0), BAD);
        due(x.taken(1, 0), -11);
        due(x.taken(1, 8), BAD);
        x.row(1, 2, 3);
        due(x.taken(1, 0), -12);
    }

    private void promise45() {
        promise = 45;
        EndTooLong x = new EndTooLong();
        due(x.count(-1), BAD);
        due(x.count(6), BAD);
        x.tie(150, 3);
        x.tie(150, 3);
        x.tier(11, 0);
        x.feed('t');
        x.feed('t');
        x.feed('t');
        x.mend(0, 0, 160);
        x.mend(0, 0, 170);
        x.mend(0, 0, 160);
        x.mend(0, 0, 170);
        x.undo();
        for (int i = 0; i < 5; i++) {
            x.body(7);
        }
        x.act(4, 1, 0);
        due(x.count(0), 2);
        due(x.count(1), 1);
        due(x.count(2), 3);
        due(x.count(3), 3);
        due(x.count(4), 5);
        due(x.count(5), 8);
    }
}
