import java.util.Arrays;

/** Ties that are too long at one end: how they hang, who ties them, and how they are tied in deed. */
public final class EndTooLong {
    public static final int BAD = -1, NOT = -2, FULL = -3, STATE = -5, VOID = -2000000000;

    private static final int NOTHING_THERE = -11, OTHER_KIND = -12, NO_PLACE = -13, SIZE_BELOW_ZERO = -14;
    private static final long NO_ELEMENT = 0x8000000000000000L;
    private static final int FAULT_BASE = -100;

    // What mend() changes and of() tells; the order is the document's.
    private static final int LONG = 0, THICK = 1, SLIPS = 2, STAIN = 3, WORN = 4, TURNS = 5, NECK = 6;
    private static final int BELT = 7, NEAR = 8, PACE = 9, SHARE = 10, BEGINS = 11, TIED = 12;
    private static final int WHATS = 13;
    private static final int[] LEAST = {40, 1, 0, 0, 0, 1, 20, 10, 0, 1, 1, 0};
    private static final int[] MOST = {200, 9, 9, 200, 99, 9, 60, 99, 9, 9, 4, 200};

    private static final int MOST_TIES = 8, MOST_TIERS = 6, KNOTS = 5, SHELVES = 6;
    private static final int LAST_B = 200, SHARES = 4, MOST_TRIES = 60, MOST_WORN = 99;
    private static final int LEAST_NECK = 20, MOST_NECK = 60, MOST_THICK = 9;
    private static final int MOST_DRESSED = 6, MOST_ORDERED = 5, ORDERS = 120, MOST_MINUTES = 9999;
    private static final int MOST_MORNINGS = 50;
    private static final int MOST_BYTES = 120, MOST_CODES = 128, MOST_WAITING = 64, MOST_CLOTH = 60;
    private static final int MOST_CHANGES = 40;
    private static final int MOST_BODIES = 50, MOST_TRACED = 24, KINDS = 8, ACTS = 4;
    private static final int MOST_ELEMENTS = 60;
    private static final int BYTES = 0, SHORTS = 1, INTS = 2, LONGS = 3, BOOLEANS = 4;

    private final Numbers numbers;
    private final Changes changes;
    private final Reader reader;
    private final Law text;
    private final Hanging hanging;
    private final Dressing dressing;
    private final Ledger ledger;
    private final Ledger kept;
    private final Turns bodies;
    private final Shelf[] shelves;
    private boolean imageIsKept;

    public EndTooLong() {
        numbers = new Numbers();
        changes = new Changes();
        reader = new Reader();
        text = new Law();
        hanging = new Hanging(text);
        dressing = new Dressing();
        ledger = new Ledger();
        kept = new Ledger();
        bodies = new Turns();
        shelves = new Shelf[SHELVES];
        for (int i = 0; i < SHELVES; i++) {
            shelves[i] = new Shelf();
        }
    }

    // ---- ties, knots, tiers

    public int tie(int length, int thick) {
        if (!isAllowed(LONG, length) || !isAllowed(THICK, thick)) {
            return BAD;
        }
        return numbers.addTie(length, thick, 0);
    }

    public int ties(int shelf, int i, int n) {
        if (!isShelf(shelf) || n < 1 || n > MOST_TIES) {
            return BAD;
        }
        Shelf from = shelves[shelf];
        if (from.isEmpty()) {
            return 0;
        }
        if (!from.isRowOf(SHORTS)) {
            return OTHER_KIND;
        }
        int came = 0;
        while (came < n && tieCame(from, i + 3 * came)) {
            came++;
        }
        return came;
    }

    public int tier(int ps, int b) {
        if (ps < 0 || !isAllowed(PACE, ps / 10) || !isAllowed(SHARE, ps % 10) || !isBeginning(b)) {
            return BAD;
        }
        return numbers.addTier(ps / 10, ps % 10, b);
    }

    public int mend(int number, int what, int v) {
        if (!isAllowed(what, v) || !numbers.has(what, number)) {
            return BAD;
        }
        int was = numbers.read(what, number);
        if (was != v) {
            changes.add(number, what, was, v);
            numbers.write(what, number, v);
        }
        return was;
    }

    public int of(int number, int what) {
        return numbers.has(what, number) ? numbers.read(what, number) : BAD;
    }

    public int feed(int letter) {
        if (letter < 0 || letter > 255) {
            return BAD;
        }
        return reader.add(letter);
    }

    public int law() {
        boolean isText = reader.readText();
        int answer = 1;
        if (isText) {
            text.become(reader);
        } else {
            answer = FAULT_BASE - reader.place;
        }
        reader.empty();
        return answer;
    }

    // ---- in thought

    public int hangs(int tk, int b, int what) {
        if (!isTieInKnot(tk) || !isBeginning(b) || what < 0 || what > 3) {
            return VOID;
        }
        Hanging hung = hung(tk);
        int cloth = hung.cloth(b);
        switch (what) {
            case 0:
                return b - cloth;
            case 1:
                return hung.thin(b);
            case 2:
                return hung.isRight(b, b - cloth) ? 1 : 0;
            default:
                return cloth;
        }
    }

    public int where(int tk, int what) {
        if (!isTieInKnot(tk) || what < 0 || what > 2) {
            return BAD;
        }
        Hanging hung = hung(tk);
        if (what == 1) {
            return hung.rightOnes();
        }
        return what == 0 ? hung.leastRight() : hung.greatestRight();
    }

    public int knot(int tie, int what) {
        if (!numbers.has(LONG, tie) || what < 0 || what > 1) {
            return BAD;
        }
        int best = NOT;
        int most = 0;
        for (int knot = 0; knot < KNOTS; knot++) {
            hanging.lay(numbers, tie, knot);
            int worth = what == 0 ? hanging.rightOnes() : hanging.turnsIfRight();
            if (worth > most) {
                most = worth;
                best = knot;
            }
        }
        return best;
    }

    public int correct(int tk, int bs, int what) {
        if (!isTieInKnot(tk) || !isStart(bs) || what < 0 || what > 1) {
            return BAD;
        }
        Hanging hung = hung(tk);
        int tries = hung.tries(bs / 10, bs % 10);
        return tries == NOT || what == 0 ? tries : hung.endedAt;
    }

    public int share(int tk, int b) {
        if (!isTieInKnot(tk) || !isBeginning(b)) {
            return BAD;
        }
        Hanging hung = hung(tk);
        int best = NOT;
        int fewest = MOST_TRIES + 1;
        for (int share = 1; share <= SHARES; share++) {
            int tries = hung.tries(b, share);
            if (tries != NOT && tries < fewest) {
                fewest = tries;
                best = share;
            }
        }
        return best;
    }

    public int bow(int tk, int what) {
        if (!isTieInKnot(tk) || what < 0 || what > 1) {
            return BAD;
        }
        Hanging hung = hung(tk);
        int best = 0;
        int nearest = hung.apart(0);
        for (int b = 1; b <= LAST_B; b++) {
            int apart = hung.apart(b);
            if (apart < nearest) {
                nearest = apart;
                best = b;
            }
        }
        return what == 0 ? best : nearest;
    }

    public int stain(int tk, int b) {
        if (!isTieInKnot(tk) || !isBeginning(b)) {
            return BAD;
        }
        Hanging hung = hung(tk);
        int cloth = hung.cloth(b);
        if (hung.stain <= b - cloth) {
            return 1;
        }
        return hung.stain <= b ? 2 : 0;
    }

    public int hide(int tk) {
        if (!isTieInKnot(tk)) {
            return BAD;
        }
        Hanging hung = hung(tk);
        for (int b = 0; b <= LAST_B; b++) {
            if (hung.isRightAt(b) && hung.stain > b - hung.cloth(b)) {
                return b;
            }
        }
        return NOT;
    }

    public int fit(int tk, int what) {
        if (!isTieInKnot(tk) || what < 0 || what > 1) {
            return BAD;
        }
        Hanging hung = hung(tk);
        for (int i = 0; i <= MOST_NECK - LEAST_NECK; i++) {
            hung.neck = what == 0 ? LEAST_NECK + i : MOST_NECK - i;
            if (hung.leastRight() != NOT) {
                return hung.neck;
            }
        }
        return NOT;
    }

    public int wear(int tk, int b) {
        if (!isTieInKnot(tk) || !isBeginning(b)) {
            return BAD;
        }
        Hanging hung = hung(tk);
        int greatest = NOT;
        for (int worn = 0; worn <= MOST_WORN; worn++) {
            hung.worn = worn;
            if (!hung.isRightAt(b)) {
                return greatest;
            }
            greatest = worn;
        }
        return greatest;
    }

    // ---- six who dress

    public int takes(int tier, int tk) {
        if (!numbers.has(PACE, tier) || !isTieInKnot(tk)) {
            return BAD;
        }
        return minutesOf(tier, hung(tk));
    }

    public int six(int shelf, int knot, int k) {
        int refusal = refusalOfDressing(shelf, knot, k >= -1);
        if (refusal != 0) {
            return refusal;
        }
        if (numbers.tiers == 0) {
            return NOT;
        }
        gather(shelf, knot);
        int done = dressing.allDone(numbers.tiers);
        if (k < 0) {
            return done;
        }
        return k < dressing.many ? dressing.who[k] : NOT;
    }

    public int order(int shelf, int knot, int k) {
        int refusal = refusalOfDressing(shelf, knot, k >= -1);
        if (refusal != 0) {
            return refusal;
        }
        dressing.gather(shelves[shelf], numbers.ties);
        if (dressing.many > MOST_ORDERED) {
            return STATE;
        }
        if (numbers.tiers == 0) {
            return NOT;
        }
        gather(shelf, knot);
        int done = dressing.firstDone(numbers.tiers);
        if (k < 0) {
            return done;
        }
        return k < dressing.many ? dressing.ties[dressing.best[k]] : NOT;
    }

    public int taxi(int shelf, int knot, int m) {
        int refusal = refusalOfDressing(shelf, knot, m >= 0 && m <= MOST_MINUTES);
        if (refusal != 0) {
            return refusal;
        }
        if (numbers.tiers == 0) {
            return NOT;
        }
        gather(shelf, knot);
        dressing.allDone(numbers.tiers);
        return dressing.doneBy(m);
    }

    public int oneMore(int shelf, int knot, int tier) {
        if (refusalOfDressing(shelf, knot, numbers.has(PACE, tier)) != 0) {
            return VOID;
        }
        gather(shelf, knot);
        int now = dressing.allDone(numbers.tiers);
        dressing.addTierLike(tier, numbers.tiers);
        return now - dressing.allDone(numbers.tiers + 1);
    }

    // ---- tries read back, drawn

    public int judge(int shelf, int tk, int bs) {
        int refusal = refusalOfTries(shelf, isTieInKnot(tk) && isStart(bs));
        if (refusal != 0) {
            return refusal;
        }
        return hung(tk).firstWrong(shelves[shelf], bs / 10, bs % 10);
    }

    public int which(int shelf, int tie, int bs) {
        int refusal = refusalOfTries(shelf, numbers.has(LONG, tie) && isStart(bs));
        if (refusal != 0) {
            return refusal;
        }
        int bits = 0;
        for (int knot = 0; knot < KNOTS; knot++) {
            hanging.lay(numbers, tie, knot);
            if (hanging.firstWrong(shelves[shelf], bs / 10, bs % 10) == NOT) {
                bits |= 1 << knot;
            }
        }
        return bits;
    }

    public int began(int shelf, int tk, int share) {
        int refusal = refusalOfTries(shelf, isTieInKnot(tk) && isAllowed(SHARE, share));
        if (refusal != 0) {
            return refusal;
        }
        Hanging hung = hung(tk);
        for (int b = 0; b <= LAST_B; b++) {
            if (hung.firstWrong(shelves[shelf], b, share) == NOT) {
                return b;
            }
        }
        return NOT;
    }

    public int thickness(int shelf, int tk, int bs) {
        int refusal = refusalOfTries(shelf, isTieInKnot(tk) && isStart(bs));
        if (refusal != 0) {
            return refusal;
        }
        Hanging hung = hung(tk);
        for (int thick = 1; thick <= MOST_THICK; thick++) {
            hung.thick = thick;
            if (hung.firstWrong(shelves[shelf], bs / 10, bs % 10) == NOT) {
                return thick;
            }
        }
        return NOT;
    }

    public int drawn(int tk, int bs, int seed, int nw) {
        if (!isTieInKnot(tk) || !isStart(bs) || nw < 10 || nw / 10 > MOST_MORNINGS || nw % 10 > 1) {
            return BAD;
        }
        Hanging hung = hung(tk);
        hung.draw = seed;
        int all = 0;
        int never = 0;
        for (int morning = 0; morning < nw / 10; morning++) {
            int tries = hung.drawnTries(bs / 10, bs % 10);
            all += tries == NOT ? MOST_TRIES : tries;
            never += tries == NOT ? 1 : 0;
        }
        return nw % 10 == 0 ? all : never;
    }

    // ---- in deed

    public int tieOn(int tk, int b) {
        if (!isTieInKnot(tk) || !isBeginning(b)) {
            return VOID;
        }
        Hanging hung = hung(tk);
        int broad = b - hung.cloth(b);
        ledger.tied++;
        ledger.right += hung.isRight(b, broad) ? 1 : 0;
        ledger.latest = broad;
        int tie = tk / 10;
        numbers.write(WORN, tie, Math.min(MOST_WORN, numbers.read(WORN, tie) + 1));
        numbers.write(TIED, tie, numbers.read(TIED, tie) + 1);
        return broad;
    }

    public int untie(int tie) {
        if (!numbers.has(TIED, tie)) {
            return BAD;
        }
        int often = numbers.read(TIED, tie);
        ledger.undone++;
        numbers.write(TIED, tie, 0);
        return often;
    }

    public int led(int what) {
        switch (what) {
            case 0:
                return ledger.tied;
            case 1:
                return ledger.right;
            case 2:
                return ledger.undone;
            case 3:
                return ledger.latest;
            default:
                return BAD;
        }
    }

    public int image() {
        kept.copyFrom(ledger);
        kept.copyTies(numbers);
        imageIsKept = true;
        return ledger.tied;
    }

    public int back() {
        if (!imageIsKept) {
            return STATE;
        }
        ledger.copyFrom(kept);
        kept.layTiesBack(numbers);
        return ledger.tied;
    }

    public int undo() {
        return changes.stepBack(numbers);
    }

    public int redo() {
        return changes.stepOn(numbers);
    }

    // ---- acts, shelves

    public int body(int kind) {
        if (!isKind(kind)) {
            return BAD;
        }
        return bodies.add(kind);
    }

    public int act(int body, int act, int x) {
        bodies.ran = 0;
        if (!bodies.has(body) || act < 0 || act >= ACTS) {
            return 0;
        }
        return bodies.start(body, act, x);
    }

    public int trace(int i) {
        if (i < 0 || i >= bodies.ran || i >= MOST_TRACED) {
            return BAD;
        }
        return bodies.traced[i];
    }

    public int keep(int shelf, int body) {
        if (!isShelf(shelf) || (body != -1 && !bodies.has(body))) {
            return BAD;
        }
        shelves[shelf].hold(body);
        return 1;
    }

    public int row(int shelf, int sort, int n) {
        if (!isShelf(shelf) || sort < BYTES || sort > BOOLEANS || n > MOST_ELEMENTS) {
            return BAD;
        }
        if (n < 0) {
            return SIZE_BELOW_ZERO;
        }
        shelves[shelf].holdRow(sort, n);
        return 1;
    }

    public int put(int shelf, int i, long v) {
        int refusal = refusalOfPlace(shelf, i);
        if (refusal != 0) {
            return refusal;
        }
        shelves[shelf].write(i, v);
        return 1;
    }

    public long element(int shelf, int i) {
        return refusalOfPlace(shelf, i) != 0 ? NO_ELEMENT : shelves[shelf].read(i);
    }

    public int shift(int shelf, int i, int other, int j, int n) {
        if (!isShelf(shelf) || !isShelf(other)) {
            return BAD;
        }
        Shelf from = shelves[shelf];
        Shelf to = shelves[other];
        if (from.isEmpty() || to.isEmpty()) {
            return NOTHING_THERE;
        }
        if (!from.isRow() || !to.isRowOf(from.sort)) {
            return OTHER_KIND;
        }
        if (!from.hasSpan(i, n) || !to.hasSpan(j, n)) {
            return NO_PLACE;
        }
        System.arraycopy(from.elements, i, to.elements, j, n);
        return n;
    }

    public int taken(int shelf, int k) {
        if (!isShelf(shelf) || !isKind(k)) {
            return BAD;
        }
        Shelf from = shelves[shelf];
        if (from.isEmpty()) {
            return NOTHING_THERE;
        }
        if (from.isRow() || !bodies.isUnder(from.turn, k)) {
            return OTHER_KIND;
        }
        return bodies.kindOf(from.turn);
    }

    public int count(int what) {
        switch (what) {
            case 0:
                return numbers.ties;
            case 1:
                return numbers.tiers;
            case 2:
                return reader.size;
            case 3:
                return changes.done;
            case 4:
                return bodies.many;
            case 5:
                return bodies.ran;
            default:
                return BAD;
        }
    }

    // ---- what the calls above share

    private static boolean isAllowed(int what, int v) {
        return what >= 0 && what < LEAST.length && what < MOST.length && v >= LEAST[what] && v <= MOST[what];
    }

    private static boolean isBeginning(int b) {
        return b >= 0 && b <= LAST_B;
    }

    private static boolean isStart(int bs) {
        return bs >= 0 && isBeginning(bs / 10) && isAllowed(SHARE, bs % 10);
    }

    private static boolean isShelf(int shelf) {
        return shelf >= 0 && shelf < SHELVES;
    }

    private static boolean isKnot(int knot) {
        return knot >= 0 && knot < KNOTS;
    }

    private static boolean isKind(int kind) {
        return kind >= 0 && kind < KINDS;
    }

    private boolean isTieInKnot(int tk) {
        return tk >= 0 && numbers.has(LONG, tk / 10) && isKnot(tk % 10);
    }

    private Hanging hung(int tk) {
        hanging.lay(numbers, tk / 10, tk % 10);
        return hanging;
    }

    private boolean tieCame(Shelf from, int i) {
        if (!from.hasSpan(i, 3)) {
            return false;
        }
        int length = (int) from.read(i);
        int thick = (int) from.read(i + 1);
        int slips = (int) from.read(i + 2);
        if (!isAllowed(LONG, length) || !isAllowed(THICK, thick) || !isAllowed(SLIPS, slips)) {
            return false;
        }
        return numbers.addTie(length, thick, slips) != FULL;
    }

    private int minutesOf(int tier, Hanging hung) {
        int tries = hung.tries(numbers.read(BEGINS, tier), numbers.read(SHARE, tier));
        return numbers.read(PACE, tier) * (tries == NOT ? MOST_TRIES : tries);
    }

    /** The ties of the row, and how long each TIER would take for each of them. */
    private void gather(int shelf, int knot) {
        dressing.gather(shelves[shelf], numbers.ties);
        for (int place = 0; place < dressing.many; place++) {
            hanging.lay(numbers, dressing.ties[place], knot);
            for (int tier = 0; tier < numbers.tiers; tier++) {
                dressing.time(tier, place, minutesOf(tier, hanging));
            }
        }
    }

    private int refusalOfRow(int shelf, int sort) {
        if (shelves[shelf].isEmpty()) {
            return NOTHING_THERE;
        }
        return shelves[shelf].isRowOf(sort) ? 0 : OTHER_KIND;
    }

    private int refusalOfDressing(int shelf, int knot, boolean restIsGood) {
        if (!isShelf(shelf) || !isKnot(knot) || !restIsGood) {
            return BAD;
        }
        return refusalOfRow(shelf, BYTES);
    }

    private int refusalOfTries(int shelf, boolean restIsGood) {
        if (!isShelf(shelf) || !restIsGood) {
            return BAD;
        }
        return refusalOfRow(shelf, SHORTS);
    }

    private int refusalOfPlace(int shelf, int i) {
        if (!isShelf(shelf)) {
            return BAD;
        }
        if (shelves[shelf].isEmpty()) {
            return NOTHING_THERE;
        }
        if (!shelves[shelf].isRow()) {
            return OTHER_KIND;
        }
        return shelves[shelf].hasSpan(i, 1) ? 0 : NO_PLACE;
    }

    /** All numbers of ties, KNOTS, TIERS and of the one who wears them, by what they are and whose. */
    private static final class Numbers {
        private static final int WIDTH = MOST_TIES;
        private final int[] held;
        int ties;
        int tiers;

        Numbers() {
            held = new int[WHATS * WIDTH];
            for (int knot = 0; knot < KNOTS; knot++) {
                held[TURNS * WIDTH + knot] = 2 * knot + 1;
            }
            held[NECK * WIDTH] = 38;
            held[BELT * WIDTH] = 50;
            held[NEAR * WIDTH] = 1;
        }

        boolean has(int what, int number) {
            return number >= 0 && number < howMany(what);
        }

        int read(int what, int number) {
            return has(what, number) ? held[what * WIDTH + number] : 0;
        }

        void write(int what, int number, int v) {
            if (has(what, number)) {
                held[what * WIDTH + number] = v;
            }
        }

        int addTie(int length, int thick, int slips) {
            if (ties >= MOST_TIES) {
                return FULL;
            }
            int number = ties;
            ties++;
            write(LONG, number, length);
            write(THICK, number, thick);
            write(SLIPS, number, slips);
            write(STAIN, number, MOST[STAIN]);
            return number;
        }

        int addTier(int pace, int share, int b) {
            if (tiers >= MOST_TIERS) {
                return FULL;
            }
            int number = tiers;
            tiers++;
            write(PACE, number, pace);
            write(SHARE, number, share);
            write(BEGINS, number, b);
            return number;
        }

        private int howMany(int what) {
            if (what < 0 || what >= WHATS) {
                return 0;
            }
            if (what <= WORN || what == TIED) {
                return ties;
            }
            if (what == TURNS) {
                return KNOTS;
            }
            return what <= NEAR ? 1 : tiers;
        }
    }

    /** The latest changes: those ahead of done may be undone, those from done on done again. */
    private static final class Changes {
        private final int[] number = new int[MOST_CHANGES];
        private final int[] what = new int[MOST_CHANGES];
        private final int[] was = new int[MOST_CHANGES];
        private final int[] became = new int[MOST_CHANGES];
        int done;
        private int all;

        void add(int whose, int which, int before, int after) {
            if (done >= MOST_CHANGES) {
                forgetOldest();
            }
            number[done] = whose;
            what[done] = which;
            was[done] = before;
            became[done] = after;
            done++;
            all = done;
        }

        int stepBack(Numbers numbers) {
            if (done <= 0) {
                return STATE;
            }
            done--;
            numbers.write(what[done], number[done], was[done]);
            return done;
        }

        int stepOn(Numbers numbers) {
            if (done >= all || done >= MOST_CHANGES) {
                return STATE;
            }
            numbers.write(what[done], number[done], became[done]);
            done++;
            return all - done;
        }

        private void forgetOldest() {
            for (int i = 1; i < MOST_CHANGES; i++) {
                number[i - 1] = number[i];
                what[i - 1] = what[i];
                was[i - 1] = was[i];
                became[i - 1] = became[i];
            }
            done = MOST_CHANGES - 1;
        }
    }

    /**
     * Reads THE TAPE into codes that a stack works off: a number as it is, all else as its byte below 0.
     * Each part that fails leaves place at the FAULT.
     */
    private static final class Reader {
        private static final int COMPARED = 2, LEVELS = 5, MOST_OPEN = 6, MOST_DIGITS = 4;
        private final int[] bytes = new int[MOST_BYTES];
        final int[] codes = new int[MOST_CODES];
        int size;
        int place;
        int written;

        int add(int letter) {
            if (size >= MOST_BYTES) {
                return FULL;
            }
            bytes[size] = letter;
            size++;
            return size;
        }

        void empty() {
            size = 0;
        }

        boolean readText() {
            place = 0;
            written = 0;
            for (int line = 0; line <= size; line++) {
                if (!readLine()) {
                    return false;
                }
                emit(Law.LINE_ENDS);
                if (!goesOnWith(';')) {
                    return place == size;
                }
            }
            return false;
        }

        private boolean readLine() {
            if (!readLevel(0, 0)) {
                return false;
            }
            if (!goesOnWith('?')) {
                return true;
            }
            emit(-'?');
            return readLevel(0, 0);
        }

        /** E, A, B, S, P are levels 0 to 4, and O is what they all come down to. */
        private boolean readLevel(int level, int open) {
            if (level >= LEVELS) {
                return readOperand(open);
            }
            if (!readLevel(level + 1, open)) {
                return false;
            }
            int most = level == COMPARED ? 1 : MOST_BYTES;
            for (int i = 0; i < most && levelOf(ahead()) == level; i++) {
                int sign = ahead();
                place++;
                if (!readLevel(level + 1, open)) {
                    return false;
                }
                emit(-sign);
            }
            return true;
        }

        private boolean readOperand(int open) {
            int sign = ahead();
            if (isDigit(sign)) {
                emit(number());
                return true;
            }
            if (isName(sign)) {
                place++;
                emit(-sign);
                return true;
            }
            if (open >= MOST_OPEN) {
                return false;
            }
            if (goesOnWith('(')) {
                return readLevel(0, open + 1) && goesOnWith(')');
            }
            if (goesOnWith('!')) {
                return readOperand(open + 1) && emit(-'!');
            }
            return goesOnWith('-') && readOperand(open + 1) && emit(Law.NEGATED);
        }

        private int number() {
            int value = 0;
            for (int digit = 0; digit < MOST_DIGITS && isDigit(ahead()); digit++) {
                value = value * 10 + ahead() - '0';
                place++;
            }
            return value;
        }

        private boolean goesOnWith(int sign) {
            if (ahead() != sign) {
                return false;
            }
            place++;
            return true;
        }

        private int ahead() {
            return place >= 0 && place < size && place < MOST_BYTES ? bytes[place] : -1;
        }

        private boolean emit(int code) {
            if (written < 0 || written >= MOST_CODES) {
                return false;
            }
            codes[written] = code;
            written++;
            return true;
        }

        private static boolean isDigit(int sign) {
            return sign >= '0' && sign <= '9';
        }

        static boolean isName(int sign) {
            return sign == 't' || sign == 'k' || sign == 's' || sign == 'w' || sign == 'n' || sign == 'b';
        }

        private static int levelOf(int sign) {
            switch (sign) {
                case '|':
                    return 0;
                case '&':
                    return 1;
                case '<':
                case '=':
                case '>':
                    return COMPARED;
                case '+':
                case '-':
                    return 3;
                case '*':
                case '/':
                case '%':
                    return 4;
                default:
                    return -1;
            }
        }
    }

    /** THE LAW as codes, worked off with a stack. */
    private static final class Law {
        static final int LINE_ENDS = -';', NEGATED = -1;
        private final int[] codes = new int[MOST_CODES];
        private final int[] waiting = new int[MOST_WAITING];
        private int size;
        private int top;

        boolean isTold() {
            return size > 0;
        }

        void become(Reader reader) {
            size = Math.min(reader.written, MOST_CODES);
            for (int i = 0; i < size; i++) {
                codes[i] = reader.codes[i];
            }
        }

        int valueFor(Hanging hung, int b) {
            top = 0;
            boolean counts = true;
            for (int i = 0; i < size; i++) {
                int code = codes[i];
                if (code == LINE_ENDS) {
                    if (counts) {
                        return pop();
                    }
                    counts = true;
                } else if (!counts) {
                    continue;
                } else if (code == -'?') {
                    counts = pop() != 0;
                } else if (code >= 0) {
                    push(code);
                } else if (Reader.isName(-code)) {
                    push(named(-code, hung, b));
                } else if (code == -'!' || code == NEGATED) {
                    push(turned(code, pop()));
                } else {
                    int right = pop();
                    push(joined(-code, pop(), right));
                }
            }
            return 0;
        }

        private static int turned(int code, int value) {
            if (code == NEGATED) {
                return -value;
            }
            return value == 0 ? 1 : 0;
        }

        private static int named(int name, Hanging hung, int b) {
            switch (name) {
                case 't':
                    return hung.thick;
                case 'k':
                    return hung.turns;
                case 's':
                    return hung.slips;
                case 'w':
                    return hung.worn;
                case 'n':
                    return hung.neck;
                default:
                    return b;
            }
        }

        private static int joined(int sign, int left, int right) {
            switch (sign) {
                case '|':
                    return left != 0 || right != 0 ? 1 : 0;
                case '&':
                    return left != 0 && right != 0 ? 1 : 0;
                case '<':
                    return left < right ? 1 : 0;
                case '=':
                    return left == right ? 1 : 0;
                case '>':
                    return left > right ? 1 : 0;
                case '+':
                    return left + right;
                case '-':
                    return left - right;
                case '*':
                    return left * right;
                case '/':
                    return right == 0 ? 0 : left / right;
                case '%':
                    return right == 0 ? 0 : left % right;
                default:
                    return 0;
            }
        }

        private void push(int value) {
            if (top >= 0 && top < MOST_WAITING) {
                waiting[top] = value;
                top++;
            }
        }

        private int pop() {
            if (top <= 0 || top > MOST_WAITING) {
                return 0;
            }
            top--;
            return waiting[top];
        }
    }

    /** A tie in a KNOT at a neck, in thought; callers change one of its numbers to ask what if. */
    private static final class Hanging {
        private final Law text;
        int length;
        int thick;
        int slips;
        int stain;
        int worn;
        int turns;
        int neck;
        int belt;
        int near;
        int endedAt;
        int draw;

        Hanging(Law law) {
            text = law;
        }

        void lay(Numbers numbers, int tie, int knot) {
            length = numbers.read(LONG, tie);
            thick = numbers.read(THICK, tie);
            slips = numbers.read(SLIPS, tie);
            stain = numbers.read(STAIN, tie);
            worn = numbers.read(WORN, tie);
            turns = numbers.read(TURNS, knot);
            neck = numbers.read(NECK, 0);
            belt = numbers.read(BELT, 0);
            near = numbers.read(NEAR, 0);
        }

        /** The document holds only a told text within 60; without one it says no more than 0 at least. */
        int cloth(int b) {
            if (text.isTold()) {
                return Math.max(0, Math.min(MOST_CLOTH, text.valueFor(this, b)));
            }
            return Math.max(0, thick * turns + thick - slips - worn / 10);
        }

        int thin(int b) {
            return length - neck - b;
        }

        int apart(int b) {
            return Math.abs(b - cloth(b) - thin(b));
        }

        boolean isRight(int b, int broad) {
            int thin = thin(b);
            return Math.abs(broad - belt) <= near && thin >= 0 && thin < broad;
        }

        boolean isRightAt(int b) {
            int thin = thin(b);
            // No KNOT takes less than 0, so BROAD is b at most: most b fall out without working off THE LAW.
            if (thin < 0 || thin >= b || b < belt - near) {
                return false;
            }
            return isRight(b, b - cloth(b));
        }

        int leastRight() {
            for (int b = 0; b <= LAST_B; b++) {
                if (isRightAt(b)) {
                    return b;
                }
            }
            return NOT;
        }

        int greatestRight() {
            for (int b = LAST_B; b >= 0; b--) {
                if (isRightAt(b)) {
                    return b;
                }
            }
            return NOT;
        }

        int rightOnes() {
            int ones = 0;
            for (int b = 0; b <= LAST_B; b++) {
                ones += isRightAt(b) ? 1 : 0;
            }
            return ones;
        }

        int turnsIfRight() {
            return leastRight() == NOT ? 0 : turns;
        }

        int tries(int from, int share) {
            int b = from;
            for (int tries = 1; tries <= MOST_TRIES; tries++) {
                int broad = b - cloth(b);
                if (isRight(b, broad)) {
                    endedAt = b;
                    return tries;
                }
                b = corrected(b, broad, share);
            }
            return NOT;
        }

        int drawnTries(int from, int share) {
            int b = from;
            for (int tries = 1; tries <= MOST_TRIES; tries++) {
                draw = draw * 1103515245 + 12345;
                int broad = b - Math.max(0, cloth(b) + (draw >>> 8) % 3 - 1);
                if (isRight(b, broad)) {
                    return tries;
                }
                b = corrected(b, broad, share);
            }
            return NOT;
        }

        int firstWrong(Shelf told, int from, int share) {
            int b = from;
            boolean isOver = false;
            for (int i = 0; i < told.size; i++) {
                int broad = b - cloth(b);
                if (isOver || told.read(i) != broad) {
                    return i;
                }
                isOver = isRight(b, broad);
                b = corrected(b, broad, share);
            }
            return NOT;
        }

        private int corrected(int b, int broad, int share) {
            int step = share == 0 ? 0 : (belt - broad) / share;
            if (step == 0) {
                step = broad > belt ? -1 : 1;
            }
            return Math.max(0, Math.min(LAST_B, b + step));
        }
    }

    /** The ties of a row and how long each TIER takes for each: who ties which, and when it is done. */
    private static final class Dressing {
        private static final int WORKERS = MOST_TIERS + 1;
        final int[] ties = new int[MOST_DRESSED];
        final int[] who = new int[MOST_DRESSED];
        final int[] best = new int[MOST_DRESSED];
        private final int[] doneAt = new int[MOST_DRESSED];
        private final int[] places = new int[MOST_DRESSED];
        private final int[] minutes = new int[WORKERS * MOST_DRESSED];
        private final int[] free = new int[WORKERS];
        int many;

        /** The first element that names no tie that is there, or one named before, ends the ties of a row. */
        void gather(Shelf told, int tiesThere) {
            many = 0;
            while (many < told.size && many < MOST_DRESSED) {
                int tie = (int) told.read(many);
                if (tie < 0 || tie >= tiesThere || isGathered(tie)) {
                    return;
                }
                ties[many] = tie;
                many++;
            }
        }

        void time(int tier, int place, int length) {
            if (tier >= 0 && tier < WORKERS && place >= 0 && place < MOST_DRESSED) {
                minutes[tier * MOST_DRESSED + place] = length;
            }
        }

        void addTierLike(int tier, int number) {
            for (int place = 0; place < many; place++) {
                time(number, place, minutesFor(tier, place));
            }
        }

        int allDone(int tiers) {
            layPlaces();
            return done(tiers);
        }

        int firstDone(int tiers) {
            layPlaces();
            int first = done(tiers);
            keepOrder();
            for (int i = 1; i < ORDERS && nextOrder(); i++) {
                int done = done(tiers);
                if (done < first) {
                    first = done;
                    keepOrder();
                }
            }
            return first;
        }

        int doneBy(int m) {
            int ones = 0;
            for (int place = 0; place < many; place++) {
                ones += doneAt[place] <= m ? 1 : 0;
            }
            return ones;
        }

        private boolean isGathered(int tie) {
            for (int place = 0; place < many; place++) {
                if (ties[place] == tie) {
                    return true;
                }
            }
            return false;
        }

        private int minutesFor(int tier, int place) {
            boolean isThere = tier >= 0 && tier < WORKERS && place >= 0 && place < MOST_DRESSED;
            return isThere ? minutes[tier * MOST_DRESSED + place] : 0;
        }

        private void layPlaces() {
            for (int i = 0; i < MOST_DRESSED; i++) {
                places[i] = i;
            }
        }

        private void keepOrder() {
            for (int i = 0; i < MOST_DRESSED; i++) {
                best[i] = places[i];
            }
        }

        private int done(int tiers) {
            Arrays.fill(free, 0);
            int last = 0;
            for (int i = 0; i < many; i++) {
                int tier = firstFree(tiers);
                free[tier] += minutesFor(tier, places[i]);
                who[i] = tier;
                doneAt[i] = free[tier];
                last = Math.max(last, free[tier]);
            }
            return last;
        }

        private int firstFree(int tiers) {
            int first = 0;
            for (int tier = 1; tier < tiers && tier < WORKERS; tier++) {
                if (free[tier] < free[first]) {
                    first = tier;
                }
            }
            return first;
        }

        /** The next order of the places, as words come in a dictionary; false behind the last one. */
        private boolean nextOrder() {
            int from = many - 2;
            while (from >= 0 && places[from] > places[from + 1]) {
                from--;
            }
            if (from < 0) {
                return false;
            }
            int with = many - 1;
            while (with > from && places[with] < places[from]) {
                with--;
            }
            swap(from, with);
            for (int low = from + 1, high = many - 1; low < high; low++, high--) {
                swap(low, high);
            }
            return true;
        }

        private void swap(int one, int two) {
            int place = places[one];
            places[one] = places[two];
            places[two] = place;
        }
    }

    /** What LED tells; of AN IMAGE also WORN of all ties and how often each was tied. */
    private static final class Ledger {
        private final int[] worn = new int[MOST_TIES];
        private final int[] often = new int[MOST_TIES];
        int tied;
        int right;
        int undone;
        int latest = VOID;

        void copyFrom(Ledger other) {
            tied = other.tied;
            right = other.right;
            undone = other.undone;
            latest = other.latest;
        }

        void copyTies(Numbers numbers) {
            for (int tie = 0; tie < MOST_TIES; tie++) {
                worn[tie] = numbers.read(WORN, tie);
                often[tie] = numbers.read(TIED, tie);
            }
        }

        void layTiesBack(Numbers numbers) {
            for (int tie = 0; tie < MOST_TIES; tie++) {
                numbers.write(WORN, tie, worn[tie]);
                numbers.write(TIED, tie, often[tie]);
            }
        }
    }

    /** TURNS of KINDS under KINDS, whose acts come from the nearest KIND above that has them. */
    private static final class Turns {
        private static final int LIES = 0, TAKES = 1, SLIPPING = 2, TELLS = 3;
        private static final int MOST_DEPTH = 40;
        private static final int[] ABOVE = {-1, 0, 0, 2, 1, 3, 0, 4};
        // A KIND's own bodies of lies, takes, slips, tells; 0: none. TURN has those of its interfaces, too.
        private static final int[] OWN = {
            1, 10, 11, 2,
            20, 0, 0, 0,
            0, 30, 0, 0,
            0, 41, 40, 0,
            0, 0, 50, 0,
            0, 0, 0, 60,
            70, 0, 0, 0,
            0, 80, 0, 81,
        };
        private final int[] kinds = new int[MOST_BODIES];
        final int[] traced = new int[MOST_TRACED];
        int many;
        int ran;
        private int number;
        private int kind;

        int add(int newKind) {
            if (many >= MOST_BODIES) {
                return FULL;
            }
            kinds[many] = newKind;
            many++;
            return many - 1;
        }

        boolean has(int turn) {
            return turn >= 0 && turn < many;
        }

        int kindOf(int turn) {
            return has(turn) ? kinds[turn] : -1;
        }

        boolean isUnder(int turn, int wanted) {
            int at = kindOf(turn);
            for (int i = 0; i < KINDS && at >= 0; i++) {
                if (at == wanted) {
                    return true;
                }
                at = above(at);
            }
            return false;
        }

        int start(int turn, int act, int x) {
            ran = 0;
            number = turn;
            kind = kindOf(turn);
            return ask(act, kind, x, 0);
        }

        /** What the act answers, looked for from a KIND on upward. */
        private int ask(int act, int from, int x, int depth) {
            int home = homeOf(act, from);
            if (home < 0 || depth > MOST_DEPTH) {
                return 0;
            }
            int own = ownOf(home, act);
            begin(own);
            return run(own, above(home), x, depth + 1);
        }

        private int run(int own, int above, int x, int depth) {
            switch (own) {
                case 1:
                    return x + number;
                case 2:
                    return ask(TAKES, kind, x, depth) - ask(SLIPPING, kind, 1, depth);
                case 10:
                    return ask(LIES, kind, x, depth) * 2;
                case 11:
                    return x ^ number;
                case 20:
                    return ask(LIES, above, x, depth) + 3;
                case 30:
                    return -ask(TAKES, above, x, depth);
                case 40:
                    return ask(SLIPPING, above, x, depth) * 3;
                case 41:
                    return ask(TAKES, above, x + 1, depth);
                case 50:
                    return ask(SLIPPING, above, x, depth) - ask(LIES, kind, 2, depth);
                case 60:
                    return ask(TELLS, above, x, depth) ^ 5;
                case 70:
                    return ask(LIES, above, x, depth) * 2;
                case 80:
                    return ask(TAKES, above, x, depth) + ask(SLIPPING, kind, 2, depth);
                case 81:
                    return ask(TELLS, above, x, depth) - 1;
                default:
                    return 0;
            }
        }

        private void begin(int own) {
            if (ran >= 0 && ran < MOST_TRACED) {
                traced[ran] = own;
            }
            ran++;
        }

        private static int homeOf(int act, int from) {
            int at = from;
            for (int i = 0; i < KINDS && at >= 0; i++) {
                if (ownOf(at, act) != 0) {
                    return at;
                }
                at = above(at);
            }
            return -1;
        }

        private static int above(int kind) {
            return kind >= 0 && kind < ABOVE.length ? ABOVE[kind] : -1;
        }

        private static int ownOf(int kind, int act) {
            boolean isThere = kind >= 0 && kind < KINDS && act >= 0 && act < ACTS;
            return isThere ? OWN[kind * ACTS + act] : 0;
        }
    }

    /** A SHELF: nothing, a TURN, or a ROW, whose elements stand here as longs within their sort. */
    private static final class Shelf {
        private static final int NO_TURN = -1, NO_ROW = -1;
        final long[] elements = new long[MOST_ELEMENTS];
        int turn = NO_TURN;
        int sort = NO_ROW;
        int size;

        boolean isEmpty() {
            return turn == NO_TURN && sort == NO_ROW;
        }

        boolean isRow() {
            return sort != NO_ROW;
        }

        boolean isRowOf(int wanted) {
            return isRow() && sort == wanted;
        }

        /** All places from i to i + n are of the row; told so that no sum wraps. */
        boolean hasSpan(int i, int n) {
            return n >= 0 && n <= size && i >= 0 && i <= size - n;
        }

        void hold(int newTurn) {
            turn = newTurn;
            sort = NO_ROW;
            size = 0;
        }

        void holdRow(int newSort, int n) {
            turn = NO_TURN;
            sort = newSort;
            size = Math.max(0, Math.min(MOST_ELEMENTS, n));
            Arrays.fill(elements, 0L);
        }

        long read(int i) {
            return i >= 0 && i < size && i < MOST_ELEMENTS ? elements[i] : 0L;
        }

        void write(int i, long v) {
            if (i >= 0 && i < size && i < MOST_ELEMENTS) {
                elements[i] = fitted(v);
            }
        }

        private long fitted(long v) {
            switch (sort) {
                case BYTES:
                    return (byte) v;
                case SHORTS:
                    return (short) v;
                case INTS:
                    return (int) v;
                case LONGS:
                    return v;
                default:
                    return v != 0L ? 1L : 0L;
            }
        }
    }
}
