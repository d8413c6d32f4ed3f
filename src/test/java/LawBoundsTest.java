/** Section 1 of the document: THE LAW, its texts, their faults, and what they give. */
public final class LawBoundsTest extends Bounds {
    private LawBoundsTest() {
    }

    public static void main(String[] args) {
        new LawBoundsTest().runAll();
    }

    private void isLaw(String text) {
        due(text, tell(new EndTooLong(), text), 1);
    }

    private void fault(String text, int place) {
        EndTooLong x = new EndTooLong();
        due(text, tell(x, text), -100 - place);
        due(text, x.count(2), 0);
    }

    /** By THICK 4, TURNS 3, SLIPS 2, WORN 25, NECK 38, b 30. */
    private void gives(String text, int cloth) {
        EndTooLong x = new EndTooLong();
        x.tie(120, 4);
        x.mend(0, 2, 2);
        x.mend(0, 4, 25);
        due(text, tell(x, text), 1);
        due(text, x.hangs(1, 30, 3), cloth);
    }

    private void isTrue(String text) {
        gives(text, 1);
    }

    // ---- which texts are laws

    @Sentence("THE LAW is a TEXT by THE TAPE (at most 120 bytes)")
    void tapeHoldsAHundredAndTwenty() {
        EndTooLong x = one();
        String text = "10" + "-0".repeat(58) + "+7";
        due(text.length(), 120);
        for (int i = 0; i < 120; i++) {
            due(x.feed(text.charAt(i)), i + 1);
        }
        due(x.feed('1'), FULL);
        due(x.feed('1'), FULL);
        due(x.count(2), 120);
        due(x.law(), 1);
        due(x.count(2), 0);
        due(x.hangs(0, 50, 3), 17);
        due(x.feed('3'), 1);
        due(x.law(), 1);
        due(x.hangs(0, 50, 3), 3);
    }

    @Sentence("LINES, one or more, parted by ;")
    void linesAreOneOrMore() {
        fault("", 0);
        fault(";", 0);
        fault(";1", 0);
        fault("1;", 2);
        fault("1;;1", 2);
        fault("1;2;", 4);
        fault("1?2;", 4);
        fault("(1;2)", 2);
        fault("1,2", 1);
        gives("1", 1);
        gives("1;2", 1);
        // As many as THE TAPE holds.
        gives("1" + ";2".repeat(59), 1);
        gives("0?1;".repeat(29) + "0?1", 0);
        gives("0?1;".repeat(29) + "7", 7);
    }

    @Sentence("LINE: E, or E ? E (what counts if the first is not 0).")
    void lineHasOneQuestionAtMost() {
        gives("1?2", 2);
        gives("-1?2", 2);
        gives("9999?2", 2);
        gives("0?2", 0);
        fault("?", 0);
        fault("?1", 0);
        fault("1?", 2);
        fault("1??2", 2);
        fault("1?2?3", 3);
        fault("1?;2", 2);
        fault("(1?2)", 2);
        fault("1?(2?3)", 4);
        isLaw("1?2;3?4");
        // Both are E, from the least binding sign on.
        gives("0|1?0|5", 1);
        gives("1&1?5&1", 1);
        gives("1?0|0;9", 0);
        gives("2<1?9;3>2?2>1;9", 1);
    }

    @Sentence("E = A { | A }. A = B { & B }.")
    void orAndAndGoOn() {
        isLaw("1|2|3");
        isLaw("1&2&3");
        isLaw("1|2&3|4");
        fault("|1", 0);
        fault("&1", 0);
        fault("1|", 2);
        fault("1&", 2);
        fault("1||2", 2);
        fault("1&&2", 2);
        fault("1|&2", 2);
        // & binds more than |.
        gives("1|1&0", 1);
        gives("0&1|1", 1);
        gives("0&(1|1)", 0);
        gives("(1|1)&0", 0);
    }

    @Sentence("B = S, or S < S, S = S, S > S.")
    void comparedOnce() {
        isLaw("1<2");
        isLaw("1<2&2<3|3>4");
        isLaw("(1<2)<3");
        isLaw("1<(2<3)");
        for (char one : "<=>".toCharArray()) {
            for (char two : "<=>".toCharArray()) {
                fault("1" + one + "2" + two + "3", 3);
                fault("1" + one + two + "2", 2);
            }
            fault(one + "1", 0);
            fault("1" + one, 2);
            fault("(1" + one + "2" + one + "3)", 4);
            fault("1+2" + one + "3+4" + one, 7);
        }
    }

    @Sentence("S = P { + P, - P }. P = O { * O, / O, % O }.")
    void sumsAndProducts() {
        gives("1+2+3-4-1", 1);
        gives("20-3-4", 13);
        gives("2*3*4", 24);
        gives("40/4/2", 5);
        gives("17%10*2", 14);
        gives("2+3*4", 14);
        gives("(2+3)*4", 20);
        gives("9-17%10", 2);
        gives("5--2", 7);
        gives("5*-2+17", 7);
        for (char sign : "*/%+".toCharArray()) {
            fault(sign + "1", 0);
            fault("1" + sign, 2);
            fault("1" + sign + sign + "2", 2);
            fault("1" + sign + ")", 2);
        }
        fault("1-", 2);
        fault("1-+2", 2);
        fault("1-*2", 2);
        fault("-", 1);
        fault("-+1", 1);
    }

    @Sentence("O = a number (1 to 4 digits), a NAME, ! O, - O, ( E ).")
    void operandsByTheirBytes() {
        gives("7", 7);
        gives("07", 7);
        gives("007", 7);
        gives("0007", 7);
        gives("0059", 59);
        gives("0", 0);
        gives("0000", 0);
        isTrue("9999=9998+1");
        fault("10000", 4);
        fault("00000", 4);
        fault("00007", 4);
        fault("1+99999", 6);
        fault("9999(", 4);
        fault("99991", 4);
        fault("tt", 1);
        fault("t1", 1);
        fault("1t", 1);
        fault("()", 1);
        fault("(", 1);
        fault("(1", 2);
        fault("1)", 1);
        fault("(1))", 3);
        fault("(1)2", 3);
        fault("(1)(2)", 3);
        fault("(1)!2", 3);
        fault("1!", 1);
        fault("!", 1);
        fault("!)", 1);
        fault("1!=2", 1);
        isLaw("!!1");
        isLaw("!-!-1");
    }

    @Sentence("No blanks.")
    void noBlanks() {
        String text = "(t+10)*2<k?!-s;-w";
        isLaw(text);
        for (int i = 0; i <= text.length(); i++) {
            for (int blank : new int[] {' ', '\t', '\n', '\r', 0, 160}) {
                fault(text.substring(0, i) + (char) blank + text.substring(i), i);
            }
        }
    }

    @Sentence("NAMES: t THICK, k TURNS, s SLIPS, w WORN, n NECK, b where one BEGINS.")
    void everyByteAlone() {
        for (int letter = 0; letter <= 255; letter++) {
            EndTooLong x = new EndTooLong();
            due(x.feed(letter), 1);
            boolean isWhole = letter >= '0' && letter <= '9' || "tkswnb".indexOf(letter) >= 0;
            boolean goesOn = "!-(".indexOf(letter) >= 0;
            due("byte " + letter, x.law(), isWhole ? 1 : goesOn ? -101 : -100);
        }
        for (int letter = 0; letter <= 255; letter++) {
            EndTooLong x = new EndTooLong();
            x.feed('t');
            x.feed(letter);
            boolean goesOn = "|&<=>+-*/%;?".indexOf(letter) >= 0;
            due("byte " + letter + " behind t", x.law(), goesOn ? -102 : -101);
        }
        gives("t", 4);
        gives("k", 3);
        gives("s", 2);
        gives("w", 25);
        gives("n", 38);
        gives("b", 30);
    }

    @Sentence("t THICK, k TURNS, s SLIPS, w WORN, n NECK, b where")
    void namesAtTheirBounds() {
        EndTooLong x = one();
        int[] whats = {1, 5, 2, 4, 6};
        int[][] bounds = {{1, 9}, {1, 9}, {0, 9}, {0, 99}, {20, 60}};
        for (int i = 0; i < whats.length; i++) {
            for (int v : bounds[i]) {
                x.mend(0, whats[i], v);
                due(tell(x, "(" + "tkswn".charAt(i) + "=" + v + ")*7"), 1);
                due("what " + whats[i] + " at " + v, x.hangs(0, 50, 3), 7);
            }
        }
        tell(x, "(b=0)*7+(b=200)*9");
        due(x.hangs(0, 0, 3), 7);
        due(x.hangs(0, 1, 3), 0);
        due(x.hangs(0, 200, 3), 9);
    }

    @Sentence("At most 6 of ( ! - ahead of an O are open at once.")
    void sixAreOpenAtMost() {
        isLaw("((((((1))))))");
        fault("(((((((1)))))))", 6);
        isLaw("!!!!!!1");
        fault("!!!!!!!1", 6);
        isLaw("------1");
        fault("-------1", 6);
        isLaw("(!-(!-1))");
        fault("(!-(!-(1)))", 6);
        fault("(!-(!-!1))", 6);
        fault("(!-(!--1))", 6);
        fault("((((((!1))))))", 6);
        fault("((((((-1))))))", 6);
        fault("!!!!!!(1)", 6);
        fault("1?((((((!", 8);
        fault("1;2+!!!!!!(", 10);
        // A - between two is not ahead of an O, and what is closed is open no more.
        isLaw("((((((1-1))))))");
        isLaw("1-!!!!!!1");
        isLaw("!!!!!!1+!!!!!!1");
        isLaw("((((((1))))))*((((((1))))))");
        isLaw("!!!!!!1?!!!!!!1;!!!!!!1");
        isLaw("(!!!!!1)+(!(1)*!!!!!1)");
        isLaw("(((((-1-1-(1)+!1)))))");
        fault("(!!!!!1)*(!!!!!!1)", 15);
        fault("(((((-1-1-(1)+!-1)))))", 15);
        gives("-(-(-(1-7)))", 6);
        gives("!!!!!!t", 1);
    }

    // ---- what they give

    @Sentence("Ints that wrap;")
    void intsWrap() {
        // 4096 * 4096 * 128 is 1 more than the greatest int.
        isTrue("4096*4096*128<0");
        isTrue("4096*4096*128-1>0");
        isTrue("4096*4096*256=0");
        isTrue("4096*4096*255<0");
        isTrue("-(4096*4096*128)<0");
        isTrue("-(4096*4096*128)=4096*4096*128");
        isTrue("4096*4096*128/-1=4096*4096*128");
        isTrue("4096*4096*128%-1=0");
        isTrue("4096*4096*64+4096*4096*64<0");
        isTrue("0-4096*4096*128<0");
        isTrue("-1-4096*4096*128>0");
        // 99980001 * 22 wraps to -2095407274.
        gives("9999*9999*22/9999/9999+30", 10);
    }

    @Sentence("/ and % toward 0,")
    void dividedTowardNought() {
        gives("9+-7/2", 6);
        gives("9+7/-2", 6);
        gives("9+-7/-2", 12);
        gives("9+7/2", 12);
        gives("9+-1/2", 9);
        gives("9+-7%4", 6);
        gives("9+7%-4", 12);
        gives("9+-7%-4", 6);
        gives("9+7%4", 12);
        gives("9+-8%4", 9);
    }

    @Sentence("by 0 they give 0;")
    void dividedByNought() {
        for (String sign : new String[] {"/", "%"}) {
            gives("9+7" + sign + "0", 9);
            gives("9+-7" + sign + "0", 9);
            gives("9+0" + sign + "0", 9);
            gives("9+t" + sign + "(k-k)", 9);
            gives("9+4096*4096*128" + sign + "0", 9);
            gives("9+7" + sign + "0" + sign + "0", 9);
            gives("9+7" + sign + "-0", 9);
        }
    }

    @Sentence("| & < = > ! give 1, 0;")
    void oneOrNought() {
        gives("5|7", 1);
        gives("5|0", 1);
        gives("0|5", 1);
        gives("-5|0", 1);
        gives("0|0", 0);
        gives("5&7", 1);
        gives("4&3", 1);
        gives("-1&-1", 1);
        gives("5&0", 0);
        gives("0&5", 0);
        gives("0&0", 0);
        gives("3<4", 1);
        gives("4<4", 0);
        gives("5<4", 0);
        gives("3=4", 0);
        gives("4=4", 1);
        gives("5=4", 0);
        gives("3>4", 0);
        gives("4>4", 0);
        gives("5>4", 1);
        gives("-1<0", 1);
        gives("!0", 1);
        gives("!1", 0);
        gives("!5", 0);
        gives("!-1", 0);
        gives("!!5", 1);
    }

    @Sentence("all is worked out.")
    void bothSidesAreWorkedOut() {
        gives("1|7/0", 1);
        gives("7/0|1", 1);
        gives("0&7/0", 0);
        gives("7%0&1", 0);
        gives("0?7/0;5", 5);
        gives("(1|2)+(0&3)*4+5", 6);
    }

    @Sentence("The first LINE without a first E, or whose first E is not 0, counts; none: 0.")
    void firstLineThatCounts() {
        gives("7;8", 7);
        gives("0;8", 0);
        gives("1?5;8", 5);
        gives("-1?5;8", 5);
        gives("9999?5;8", 5);
        gives("1?0;8", 0);
        gives("0?5;8", 8);
        gives("0?5;0?6;8", 8);
        gives("0?5;3?6;8", 6);
        gives("0?5;0?6;0?7;4?8;9", 8);
        gives("7;1?8", 7);
        gives("0?5", 0);
        gives("0?5;0?6", 0);
        gives("4096*4096*256?5;8", 8);
    }

    @Sentence("FAULT: the place (from 0) of the first byte with which no TEXT goes on; the length, if it ends too early.")
    void faultIsAPlaceOrTheLength() {
        fault("x", 0);
        fault("1x", 1);
        fault("1x2y", 1);
        fault("" + (char) 255, 0);
        fault("" + (char) 0, 0);
        fault("(", 1);
        fault("1+", 2);
        fault("1<2+(3", 6);
        // The last place of a full TAPE, and its length.
        fault("1+".repeat(59) + "1x", 119);
        fault("1+".repeat(59) + "1)", 119);
        fault("1+".repeat(60), 120);
        fault("0?1;".repeat(30), 120);
    }
}
