/** Section 5 of the document: BODIES of TURNS, their acts, THE TRACE, SHELVES, and ties from rows. */
public final class TurnsBoundsTest extends Bounds {
    /** The KINDS that each KIND is under, itself the last. */
    private static final String[] UNDER = {"0", "01", "02", "023", "014", "0235", "06", "0147"};

    private TurnsBoundsTest() {
    }

    public static void main(String[] args) {
        new TurnsBoundsTest().runAll();
    }

    /** BODIES 0 .. 7 are of KINDS 0 .. 7. */
    private static EndTooLong kinds() {
        EndTooLong x = new EndTooLong();
        for (int kind = 0; kind < 8; kind++) {
            x.body(kind);
        }
        return x;
    }

    /** What an act answers, and all that ran, in its order. */
    private void acted(EndTooLong x, int body, int act, int with, int answer, int... ran) {
        due("act(" + body + ", " + act + ", " + with + ")", x.act(body, act, with), answer);
        due("how many ran", x.count(5), ran.length);
        for (int i = 0; i < ran.length; i++) {
            due("place " + i, x.trace(i), ran[i]);
        }
        due("behind them", x.trace(ran.length), BAD);
    }

    // ---- BODIES, KINDS, ACTS

    @Sentence({"TURNS' ways are kept by call as BODIES 0 .. 49, of KINDS:",
        "A TURN of a KIND (0 .. 7) is kept: its number. BAD, FULL."})
    void bodiesAreFifty() {
        EndTooLong x = new EndTooLong();
        for (int kind : outside(0, 7)) {
            due(x.body(kind), BAD);
        }
        due(x.count(4), 0);
        for (int i = 0; i < 50; i++) {
            due(x.keep(0, i), BAD);
            due(x.act(i, 0, 1), 0);
            due(x.body(7 - i % 8), i);
            due(x.count(4), i + 1);
            due(x.keep(0, i), 1);
            due(x.taken(0, 0), 7 - i % 8);
        }
        for (int kind = 0; kind < 8; kind++) {
            due(x.body(kind), FULL);
        }
        due(x.body(8), BAD);
        due(x.body(-1), BAD);
        due(x.count(4), 50);
        due(x.keep(0, 50), BAD);
        due(x.act(50, 0, 1), 0);
        due(x.act(49, 2, 1), 48);
        due(x.taken(0, 0), 7 - 49 % 8);
    }

    @Sentence({"ACTS with x (an int that wraps): 0 lies, 1 takes, 2 slips, 3 tells; n its number.",
        "An ACT (0 .. 3) of a TURN with x. 0, and no TRACE then: no such TURN, ACT."})
    void noSuchAct() {
        EndTooLong x = kinds();
        int[][] wrong = {{-1, 0}, {8, 0}, {50, 0}, {LEAST, 0}, {MOST, 0}, {0, -1}, {0, 4}, {0, LEAST}, {0, MOST}, {8, 4}};
        for (int[] pair : wrong) {
            acted(x, 1, 0, 5, 9, 20, 1);
            acted(x, pair[0], pair[1], 5, 0);
            due(x.trace(0), BAD);
        }
        acted(x, 0, 0, 5, 5, 1);
        acted(x, 0, 1, 5, 10, 10, 1);
        acted(x, 0, 2, 5, 5, 11);
        acted(x, 0, 3, 5, 10 - 1, 2, 10, 1, 11);
    }

    @Sentence("an int that wraps): 0 lies")
    void actsWrap() {
        EndTooLong x = kinds();
        // 1 lies: x + n, and 20: and 3.
        acted(x, 0, 0, MOST, MOST, 1);
        acted(x, 1, 0, MOST, LEAST + 3, 20, 1);
        acted(x, 1, 0, MOST - 3, LEAST, 20, 1);
        acted(x, 1, 0, LEAST, LEAST + 4, 20, 1);
        // 10 takes: lies(x) * 2.
        acted(x, 0, 1, 1 << 30, LEAST, 10, 1);
        acted(x, 0, 1, MOST, -2, 10, 1);
        acted(x, 0, 1, LEAST, 0, 10, 1);
        // 11 slips: x ^ n.
        acted(x, 1, 2, LEAST, LEAST + 1, 11);
        acted(x, 1, 2, MOST, MOST - 1, 11);
        acted(x, 1, 2, -1, -2, 11);
        // 2 tells: takes(x) - slips(1): LEAST less 1.
        acted(x, 0, 3, 1 << 30, MOST, 2, 10, 1, 11);
        // 30 takes: the least int, turned, is itself.
        acted(x, 2, 1, (1 << 30) - 2, LEAST, 30, 10, 1);
        // 40 slips: times 3; 41 takes: x + 1, then and 3, times 2, turned.
        acted(x, 3, 2, MOST, (MOST - 3) * 3, 40, 11);
        acted(x, 3, 1, MOST, -((LEAST + 3) * 2), 41, 30, 10, 1);
        // 50 slips: (x ^ 4) - (2 + 4 + 3).
        acted(x, 4, 2, LEAST, (LEAST ^ 4) - 9, 50, 11, 20, 1);
        // 60 tells: (takes less slips) ^ 5: n is 5.
        acted(x, 5, 3, MOST, (-((LEAST + 5) * 2) - (1 ^ 5) * 3) ^ 5, 60, 2, 41, 30, 10, 1, 40, 11);
        // 70 lies: times 2.
        acted(x, 6, 0, 1 << 30, LEAST + 12, 70, 1);
        // 80 takes: (lies * 2) + slips(2); 81 tells: takes - slips(1) - 1: n is 7.
        acted(x, 7, 1, MOST, (LEAST + 9) * 2 + (2 ^ 7) - 12, 80, 10, 20, 1, 50, 11, 20, 1);
        acted(x, 7, 3, MOST, (LEAST + 9) * 2 + (2 ^ 7) - 12 - ((1 ^ 7) - 12) - 1,
            81, 2, 80, 10, 20, 1, 50, 11, 20, 1, 50, 11, 20, 1);
    }

    @Sentence({"lies(..) and so on: the body of its own KIND, or of the next KIND above that has one;",
        "super: from the KIND above the body's on."})
    void nextKindAboveThatHasOne() {
        EndTooLong x = kinds();
        // By 10, n is the KIND: all four acts of all eight.
        acted(x, 0, 0, 10, 10, 1);
        acted(x, 1, 0, 10, 14, 20, 1);
        acted(x, 2, 0, 10, 12, 1);
        acted(x, 3, 0, 10, 13, 1);
        acted(x, 4, 0, 10, 17, 20, 1);
        acted(x, 5, 0, 10, 15, 1);
        acted(x, 6, 0, 10, 32, 70, 1);
        acted(x, 7, 0, 10, 20, 20, 1);
        acted(x, 0, 1, 10, 20, 10, 1);
        acted(x, 1, 1, 10, 28, 10, 20, 1);
        acted(x, 2, 1, 10, -24, 30, 10, 1);
        acted(x, 3, 1, 10, -28, 41, 30, 10, 1);
        acted(x, 4, 1, 10, 34, 10, 20, 1);
        acted(x, 5, 1, 10, -32, 41, 30, 10, 1);
        acted(x, 6, 1, 10, 64, 10, 70, 1);
        acted(x, 7, 1, 10, 40 + 5 - 12, 80, 10, 20, 1, 50, 11, 20, 1);
        acted(x, 0, 2, 10, 10, 11);
        acted(x, 1, 2, 10, 11, 11);
        acted(x, 2, 2, 10, 8, 11);
        acted(x, 3, 2, 10, 27, 40, 11);
        acted(x, 4, 2, 10, 14 - 9, 50, 11, 20, 1);
        acted(x, 5, 2, 10, 45, 40, 11);
        acted(x, 6, 2, 10, 12, 11);
        acted(x, 7, 2, 10, 13 - 12, 50, 11, 20, 1);
        acted(x, 0, 3, 10, 20 - 1, 2, 10, 1, 11);
        acted(x, 1, 3, 10, 28, 2, 10, 20, 1, 11);
        acted(x, 2, 3, 10, -24 - 3, 2, 30, 10, 1, 11);
        acted(x, 3, 3, 10, -28 - 6, 2, 41, 30, 10, 1, 40, 11);
        acted(x, 4, 3, 10, 34 - (5 - 9), 2, 10, 20, 1, 50, 11, 20, 1);
        acted(x, 5, 3, 10, (-32 - 12) ^ 5, 60, 2, 41, 30, 10, 1, 40, 11);
        acted(x, 6, 3, 10, 64 - 7, 2, 10, 70, 1, 11);
        acted(x, 7, 3, 10, 33 - (6 - 12) - 1, 81, 2, 80, 10, 20, 1, 50, 11, 20, 1, 50, 11, 20, 1);
    }

    @Sentence({"THE TRACE: numbers of the bodies that ran in the latest act(), as they began; the first 24 are kept.",
        "THE TRACE's i-th body. BAD."})
    void traceOfTheLatestAct() {
        EndTooLong x = new EndTooLong();
        for (int i : new int[] {0, 1, 23, 24, 25, -1, LEAST, MOST}) {
            due(x.trace(i), BAD);
        }
        // No act of any KIND runs more than 14, so all are kept; and none of a longer one ahead of it is left.
        int longest = 0;
        for (int kind = 0; kind < 8; kind++) {
            x.body(kind);
            for (int act = 0; act < 4; act++) {
                x.act(kind, act, 3);
                longest = Math.max(longest, x.count(5));
                due(x.trace(x.count(5) - 1) > 0 ? 1 : 0, 1);
                due(x.trace(x.count(5)), BAD);
            }
        }
        due(longest, 14);
        due(x.count(5), 14);
        due(x.trace(13), 1);
        for (int i : new int[] {14, 15, 23, 24, 25, 49, -1, LEAST, MOST}) {
            due(x.trace(i), BAD);
        }
        x.act(0, 2, 3);
        due(x.trace(0), 11);
        for (int i = 1; i <= 24; i++) {
            due(x.trace(i), BAD);
        }
        x.act(0, 4, 3);
        due(x.trace(0), BAD);
    }

    // ---- SHELVES

    @Sentence("SHELVES 0 .. 5 each hold nothing (at first), a TURN (a BODY), or a ROW:")
    void shelvesAreSix() {
        EndTooLong x = kinds();
        for (int shelf = 0; shelf < 6; shelf++) {
            due(x.put(shelf, 0, 1), NOTHING_THERE);
            due(x.taken(shelf, 0), NOTHING_THERE);
            due(x.ties(shelf, 0, 1), 0);
        }
        for (int shelf : outside(0, 5)) {
            due(x.keep(shelf, -1), BAD);
            due(x.keep(shelf, 0), BAD);
            due(x.row(shelf, 0, 1), BAD);
            due(x.put(shelf, 0, 1), BAD);
            due(x.element(shelf, 0), Long.MIN_VALUE);
            due(x.shift(shelf, 0, 0, 0, 0), BAD);
            due(x.shift(0, 0, shelf, 0, 0), BAD);
            due(x.taken(shelf, 0), BAD);
            due(x.ties(shelf, 0, 1), BAD);
        }
        // Each is one of its own; a ROW and a TURN push each other off.
        for (int shelf = 0; shelf < 6; shelf++) {
            due(x.row(shelf, shelf % 5, 3), 1);
            due(x.put(shelf, 2, 1), 1);
        }
        for (int shelf = 0; shelf < 6; shelf++) {
            due(x.element(shelf, 2), 1);
            due(x.keep(shelf, shelf + 2), 1);
            due(x.put(shelf, 2, 1), OTHER_KIND);
            due(x.element(shelf, 2), Long.MIN_VALUE);
            due(x.taken(shelf, 0), shelf + 2);
        }
        for (int shelf = 0; shelf < 6; shelf++) {
            due(x.taken(shelf, 0), shelf + 2);
            due(x.row(shelf, 3, 1), 1);
            due(x.taken(shelf, 0), OTHER_KIND);
            due(x.element(shelf, 0), 0);
            due(x.keep(shelf, -1), 1);
            due(x.put(shelf, 0, 1), NOTHING_THERE);
            due(x.element(shelf, 0), Long.MIN_VALUE);
        }
    }

    @Sentence("of 0 bytes, 1 shorts, 2 ints, 3 longs, 4 booleans, of 0 .. 60 elements, 0 at first (false);")
    void rowsOfSixtyAtMost() {
        for (int sort = 0; sort <= 4; sort++) {
            EndTooLong x = new EndTooLong();
            for (int n : new int[] {0, 1, 59, 60}) {
                due(x.row(0, sort, n), 1);
                for (int i = 0; i < n; i++) {
                    due(x.element(0, i), 0);
                    due(x.put(0, i, 1), 1);
                    due(x.element(0, i), 1);
                }
                for (int i : new int[] {n, 60, 61, -1, LEAST, MOST}) {
                    due(x.put(0, i, 1), NO_PLACE);
                    due(x.element(0, i), Long.MIN_VALUE);
                }
            }
            for (int n : new int[] {61, MOST}) {
                due(x.row(0, sort, n), BAD);
            }
            due(x.row(0, sort, -1), SIZE_BELOW_ZERO);
            due(x.element(0, 59), 1);
            // A new ROW is of noughts, whatever stood there.
            x.put(0, 30, -1);
            due(x.row(0, sort, 60), 1);
            for (int i : new int[] {0, 29, 30, 31, 59}) {
                due(x.element(0, i), 0);
            }
        }
    }

    /** What is put in, and what then stands in a row of bytes, shorts, ints, longs, booleans. */
    private static final long[][] KEPT = {
        {0, 0, 0, 0, 0, 0}, {1, 1, 1, 1, 1, 1}, {-1, -1, -1, -1, -1, 1},
        {127, 127, 127, 127, 127, 1}, {128, -128, 128, 128, 128, 1}, {-128, -128, -128, -128, -128, 1},
        {-129, 127, -129, -129, -129, 1}, {255, -1, 255, 255, 255, 1}, {256, 0, 256, 256, 256, 1},
        {32767, -1, 32767, 32767, 32767, 1}, {32768, 0, -32768, 32768, 32768, 1}, {-32769, -1, 32767, -32769, -32769, 1},
        {65536, 0, 0, 65536, 65536, 1}, {MOST, -1, -1, MOST, MOST, 1}, {LEAST, 0, 0, LEAST, LEAST, 1},
        {1L << 31, 0, 0, LEAST, 1L << 31, 1}, {-(1L << 31) - 1, -1, -1, MOST, -(1L << 31) - 1, 1},
        {1L << 32, 0, 0, 0, 1L << 32, 1}, {Long.MAX_VALUE, -1, -1, -1, Long.MAX_VALUE, 1},
        {Long.MIN_VALUE, 0, 0, 0, Long.MIN_VALUE, 1}, {2, 2, 2, 2, 2, 1},
    };

    @Sentence("what is put in keeps its lowest bits (a boolean: whether it is not 0; 1 or 0).")
    void lowestBitsAreKept() {
        EndTooLong x = new EndTooLong();
        for (int sort = 0; sort <= 4; sort++) {
            x.row(sort, sort, 1);
            for (long[] kept : KEPT) {
                due(x.put(sort, 0, kept[0]), 1);
                due("sort " + sort + " of " + kept[0], x.element(sort, 0), kept[sort + 1]);
            }
        }
    }

    // ---- TIES FROM A ROW

    @Sentence({"TIES FROM A ROW of shorts, from a place on: by threes LONG, THICK, SLIPS: n of them;",
        "TIES FROM A ROW on a SHELF, from place i on, n (1 .. 8) of them: how many came."})
    void nTiesAtMost() {
        for (int n = 1; n <= 8; n++) {
            EndTooLong x = new EndTooLong();
            x.row(0, 1, 60);
            for (int i = 0; i < 20; i++) {
                x.put(0, 3 * i, 100 + i);
                x.put(0, 3 * i + 1, 1 + i % 9);
                x.put(0, 3 * i + 2, i % 10);
            }
            due(x.ties(0, 30, n), n);
            due(x.count(0), n);
            due(x.of(0, 0), 110);
            due(x.of(n - 1, 0), 109 + n);
            due(x.of(n - 1, 1), 1 + (9 + n) % 9);
            due(x.of(n - 1, 2), (9 + n) % 10);
        }
        EndTooLong x = new EndTooLong();
        shorts(x, 0, 100, 1, 0);
        for (int n : outside(1, 8)) {
            due(x.ties(0, 0, n), BAD);
        }
        due(x.count(0), 0);
    }

    @Sentence("it ends where the row is missing, ends (within a three, too), one is not so, or TIES are FULL: those ahead came.")
    void thoseAheadCame() {
        // Missing.
        EndTooLong x = kinds();
        due(x.ties(0, 0, 8), 0);
        due(x.ties(0, 60, 1), 0);
        x.keep(0, 1);
        x.keep(0, -1);
        due(x.ties(0, 0, 8), 0);
        // It ends: with a three, within one, and where no element is.
        int[] elements = {50, 1, 0, 60, 2, 1, 70, 3, 2};
        for (int n = 0; n <= 9; n++) {
            EndTooLong y = new EndTooLong();
            shorts(y, 0, java.util.Arrays.copyOf(elements, n));
            due(n + " elements", y.ties(0, 0, 8), n / 3);
            due(y.count(0), n / 3);
            due(y.of(0, 0), n < 3 ? BAD : 50);
        }
        shorts(x, 0, elements);
        for (int i : new int[] {7, 8, 9, 10, 60, -1, -2, -3, LEAST, MOST, MOST - 1, MOST - 2}) {
            due("from place " + i, x.ties(0, i, 1), 0);
            due("from place " + i, x.ties(0, i, 8), 0);
        }
        due(x.count(0), 0);
        due(x.ties(0, 6, 8), 1);
        due(x.of(0, 0), 70);
        // One is not so: the second one of three.
        int[][] wrong = {{39, 2, 1}, {201, 2, 1}, {-1, 2, 1}, {60, 0, 1}, {60, 10, 1}, {60, -1, 1}, {60, 2, -1}, {60, 2, 10}};
        for (int[] one : wrong) {
            EndTooLong y = new EndTooLong();
            shorts(y, 0, 50, 1, 0, one[0], one[1], one[2], 70, 3, 2);
            due(y.ties(0, 3, 2), 0);
            due(y.ties(0, 0, 3), 1);
            due(y.count(0), 1);
        }
        // FULL.
        for (int i = 1; i < 6; i++) {
            x.tie(100, 1);
        }
        due(x.ties(0, 0, 3), 2);
        due(x.of(6, 0), 50);
        due(x.of(7, 0), 60);
        due(x.ties(0, 0, 3), 0);
        due(x.count(0), 8);
    }
}
