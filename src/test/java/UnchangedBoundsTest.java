import java.util.Arrays;
import java.util.Set;
import java.util.function.Supplier;

/**
 * What is refused changes nothing, nor does what is only asked: each call is made on one of two objects that came to
 * be alike, and all that can be seen of both must be alike behind it.
 */
public final class UnchangedBoundsTest extends Bounds {
    private static final long[] TK = {-1, 0, 1, 2, 4, 5, 10, 24, 74, 80, MOST};
    private static final long[] TIE = {-1, 0, 1, 2, 7, 8, LEAST};
    private static final long[] B = {-1, 0, 63, 200, 201};
    private static final long[] BS = {-1, 0, 1, 634, 635, 2004, 2011};
    private static final long[] SHELF = {-1, 0, 1, 2, 3, 4, 5, 6};
    private static final long[] KNOT = {-1, 0, 1, 4, 5};
    private static final long[] K = {-2, -1, 0, 5, 6, MOST};
    private static final long[] WHAT = {-1, 0, 1, 2, 3, 4, 5, 6};
    private static final long[] NUMBERS = {-1, 0, 1, 2, 3, 4, 5, 6, 7, 8, 9, 10, 11, 12, 13};
    private static final long[] PLACE = {LEAST, -1, 0, 1, 5, 6, 59, 60, MOST};
    private static final long[] FEW = {-1, 0, 2, 60, MOST};

    private record Call(String name, long[]... values) {
    }

    /** What no answer of which may change anything. */
    private static final Call[] ASKED = {
        new Call("of", TIE, NUMBERS), new Call("hangs", TK, B, WHAT), new Call("where", TK, WHAT),
        new Call("knot", TIE, WHAT), new Call("correct", TK, BS, WHAT), new Call("share", TK, B),
        new Call("bow", TK, WHAT), new Call("stain", TK, B), new Call("hide", TK), new Call("fit", TK, WHAT),
        new Call("wear", TK, B), new Call("takes", TIE, TK), new Call("six", SHELF, KNOT, K),
        new Call("order", SHELF, KNOT, K), new Call("taxi", SHELF, KNOT, new long[] {-1, 0, 60, 9999, 10000}),
        new Call("oneMore", SHELF, KNOT, TIE), new Call("judge", SHELF, TK, BS), new Call("which", SHELF, TIE, BS),
        new Call("began", SHELF, TK, new long[] {-1, 0, 1, 4, 5}), new Call("thickness", SHELF, TK, BS),
        new Call("drawn", TK, BS, new long[] {7}, new long[] {-1, 10, 31, 501, 502, 510}), new Call("led", WHAT),
        new Call("trace", PLACE), new Call("element", SHELF, PLACE), new Call("taken", SHELF, WHAT),
        new Call("taken", SHELF, new long[] {7, 8}), new Call("count", WHAT),
    };
    /** What may be refused. */
    private static final Call[] DONE = {
        new Call("tie", new long[] {LEAST, 39, 40, 200, 201}, new long[] {-1, 0, 1, 9, 10}),
        new Call("ties", SHELF, PLACE, new long[] {LEAST, 0, 1, 8, 9}),
        new Call("tier", new long[] {-11, 0, 1, 10, 11, 15, 94, 95, 101}, B),
        new Call("mend", TIE, NUMBERS, new long[] {LEAST, -1, 0, 1, 5, 9, 10, 20, 61, 99, 200, 201}),
        new Call("feed", new long[] {LEAST, -1, 0, '1', 255, 256}), new Call("tieOn", TK, B), new Call("untie", TIE),
        new Call("back"), new Call("undo"), new Call("redo"), new Call("body", new long[] {LEAST, -1, 0, 7, 8}),
        new Call("keep", SHELF, new long[] {-2, -1, 0, 7, 8, 49, 50}),
        new Call("row", SHELF, WHAT, new long[] {LEAST, -1, 0, 60, 61}),
        new Call("put", SHELF, PLACE, new long[] {-7}), new Call("shift", SHELF, FEW, SHELF, FEW, FEW),
    };
    private static final Set<Long> REFUSALS = Set.of(-1L, -2L, -3L, -5L, -11L, -12L, -13L, -14L);

    private UnchangedBoundsTest() {
    }

    public static void main(String[] args) {
        new UnchangedBoundsTest().runAll();
    }

    // ---- the worlds

    private static EndTooLong little() {
        EndTooLong x = new EndTooLong();
        x.tie(150, 3);
        x.tie(128, 4);
        x.tie(170, 2);
        x.tier(21, 70);
        x.tier(14, 55);
        int[][] mended = {{0, 2, 1}, {0, 4, 5}, {1, 3, 60}, {2, 0, 160}, {3, 5, 8}, {0, 6, 36}, {0, 7, 52}, {1, 9, 3}, {0, 4, 8}};
        for (int[] one : mended) {
            x.mend(one[0], one[1], one[2]);
        }
        x.undo();
        x.undo();
        x.undo();
        tell(x, "t*k+n/9+b%3");
        for (char letter : "w+2*b/9".toCharArray()) {
            x.feed(letter);
        }
        for (int kind = 0; kind < 8; kind++) {
            x.body(kind);
        }
        x.act(7, 3, 10);
        x.tieOn(1, 70);
        x.tieOn(12, 80);
        x.image();
        x.tieOn(21, 64);
        x.tieOn(22, 64);
        x.untie(1);
        x.keep(1, 5);
        bytes(x, 2, 0, 2, 1);
        int told = x.hangs(1, 63, 0);
        shorts(x, 3, told, 150, 3, 0, 100, 1);
        fill(x, 4, 3, 7, -7);
        fill(x, 5, 4, 1, 0, 1);
        return x;
    }

    /** Ties, TIERS, THE TAPE and BODIES can come no more; there is no image, and nothing was mended. */
    private static EndTooLong full() {
        EndTooLong x = new EndTooLong();
        for (int i = 0; i < 8; i++) {
            x.tie(120 + 10 * i, 1 + i);
            x.tier(11 + 10 * i, 60 + i);
        }
        for (int i = 0; i < 120; i++) {
            x.feed("1+t*2-k+".charAt(i % 8));
        }
        for (int i = 0; i < 50; i++) {
            x.body(i % 8);
        }
        x.tieOn(1, 60);
        bytes(x, 0, 5, 4, 3, 2, 1, 0, 6);
        x.row(1, 1, 60);
        x.put(1, 0, 100);
        x.put(1, 1, 1);
        x.put(1, 59, -5);
        fill(x, 2, 2, 70000, -70000);
        fill(x, 4, 2, 1, 2, 3, 4, 5, 6);
        bytes(x, 5);
        return x;
    }

    /** Forty changes, ten of them undone, and no TIER and no law. */
    private static EndTooLong mended() {
        EndTooLong x = new EndTooLong();
        x.tie(150, 3);
        for (int i = 1; i <= 22; i++) {
            x.mend(0, 4, i);
            x.mend(0, 0, 100 + i);
        }
        for (int i = 0; i < 10; i++) {
            x.undo();
        }
        bytes(x, 2, 0);
        shorts(x, 3, 60, 150, 3);
        return x;
    }

    // ---- all that can be seen

    private static final class Seen {
        final long[] all = new long[512];
        int many;

        void add(long one) {
            all[many++] = one;
        }
    }

    private static final int[] WHATS = {0, 1, 2, 3, 4, 12, 5, 6, 7, 8, 9, 10, 11};
    private static final int[] MANY = {8, 8, 8, 8, 8, 8, 5, 1, 1, 1, 6, 6, 6};

    private static Seen see(EndTooLong x) {
        Seen seen = new Seen();
        for (int what = 0; what <= 5; what++) {
            seen.add(x.count(what));
        }
        for (int i = 0; i < WHATS.length; i++) {
            for (int number = 0; number < MANY[i]; number++) {
                seen.add(x.of(number, WHATS[i]));
            }
        }
        for (int i = 0; i <= 14; i++) {
            seen.add(x.trace(i));
        }
        seeDeeds(x, seen);
        seeCloth(x, seen);
        seeShelves(x, seen);
        // From here on by what changes it.
        seen.add(x.law());
        seeCloth(x, seen);
        for (int answer = 0; answer != STATE; ) {
            answer = x.redo();
            seen.add(answer);
        }
        for (int answer = 0; answer != STATE; ) {
            answer = x.undo();
            seen.add(answer);
            seen.add(x.of(0, 4));
            seen.add(x.of(0, 0));
        }
        seen.add(x.back());
        seeDeeds(x, seen);
        for (int tie = 0; tie < 8; tie++) {
            seen.add(x.of(tie, 4));
            seen.add(x.of(tie, 12));
        }
        for (int body = 0; body < x.count(4); body++) {
            seen.add(x.act(body, 2, 100));
        }
        return seen;
    }

    private static void seeDeeds(EndTooLong x, Seen seen) {
        for (int what = 0; what <= 3; what++) {
            seen.add(x.led(what));
        }
    }

    private static void seeCloth(EndTooLong x, Seen seen) {
        seen.add(x.hangs(0, 63, 3));
        seen.add(x.hangs(12, 100, 3));
    }

    private static void seeShelves(EndTooLong x, Seen seen) {
        for (int shelf = 0; shelf < 6; shelf++) {
            seen.add(x.taken(shelf, 0));
            for (int i = 0; i <= 6; i++) {
                seen.add(x.element(shelf, i));
            }
            seen.add(x.element(shelf, 59));
            // By what is left of it, which sort it is.
            seen.add(x.put(shelf, 0, (1L << 40) + 40000L));
            seen.add(x.element(shelf, 0));
        }
    }

    // ---- the calls

    private void unchanged(Supplier<EndTooLong> world) {
        Seen due = see(world.get());
        for (Call call : ASKED) {
            tryAll(world, due, call, true, new long[call.values.length], 0);
        }
        int refused = 0;
        for (Call call : DONE) {
            refused += tryAll(world, due, call, false, new long[call.values.length], 0);
        }
        due("enough was refused", refused > 2000 ? 1 : 0, 1);
    }

    /** How many calls were to leave all as it was. */
    private int tryAll(Supplier<EndTooLong> world, Seen due, Call call, boolean isAsked, long[] with, int from) {
        if (from < with.length) {
            int many = 0;
            for (long v : call.values[from]) {
                with[from] = v;
                many += tryAll(world, due, call, isAsked, with, from + 1);
            }
            return many;
        }
        EndTooLong x = world.get();
        long answer = Calls.call(x, call.name, with);
        if (!isAsked && !isRefused(call, answer)) {
            return 0;
        }
        same(Calls.shown(call.name, with), due, see(x));
        return 1;
    }

    private static boolean isRefused(Call call, long answer) {
        return call.name.equals("tieOn") ? answer == VOID : REFUSALS.contains(answer);
    }

    private void same(String call, Seen due, Seen got) {
        due("behind " + call + ": how many can be seen", got.many, due.many);
        int differs = Arrays.mismatch(got.all, due.all);
        if (differs >= 0) {
            due("behind " + call + ": the " + differs + "-th that can be seen", got.all[differs], due.all[differs]);
        }
    }

    @Sentence("What is answered so changes nothing.")
    void ofANewObject() {
        unchanged(EndTooLong::new);
    }

    @Sentence("What is answered so changes nothing.")
    void ofALittleOfAll() {
        unchanged(UnchangedBoundsTest::little);
    }

    @Sentence("What is answered so changes nothing.")
    void ofWhatIsFull() {
        unchanged(UnchangedBoundsTest::full);
    }

    @Sentence("What is answered so changes nothing.")
    void ofManyChanges() {
        unchanged(UnchangedBoundsTest::mended);
    }
}
