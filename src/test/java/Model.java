import java.util.ArrayDeque;
import java.util.ArrayList;
import java.util.Collections;
import java.util.Deque;
import java.util.HashMap;
import java.util.LinkedHashSet;
import java.util.List;
import java.util.Map;
import java.util.function.IntPredicate;
import java.util.stream.IntStream;

/** The document a second time, written plainly with the Java library, to hold against EndTooLong. */
final class Model {
    static final int BAD = -1, NOT = -2, FULL = -3, STATE = -5, VOID = -2000000000;

    /** A refusal leaves a call by this. */
    private static final class No extends RuntimeException {
        private static final long serialVersionUID = 1L;
        final int answer;

        No(int answer) {
            super(null, null, false, false);
            this.answer = answer;
        }
    }

    private static final class Tie {
        int length;
        int thick;
        int slips;
        int stain = 200;
        int worn;
        int often;
    }

    private static final class Tier {
        int pace;
        int share;
        int begins;
    }

    private record Change(int number, int what, int was, int became) {
    }

    private record Image(List<Integer> worn, List<Integer> often, int[] led) {
    }

    private record Row(int sort, long[] elements) {
    }

    private record Tried(int tries, int b) {
    }

    private final List<Tie> ties = new ArrayList<>();
    private final List<Tier> tiers = new ArrayList<>();
    private final int[] turns = {1, 3, 5, 7, 9};
    private int neck = 38;
    private int belt = 50;
    private int near = 1;
    private final List<Integer> tape = new ArrayList<>();
    private String law;
    private Deque<Change> undone = new ArrayDeque<>();
    private final Deque<Change> done = new ArrayDeque<>();
    private int[] led = {0, 0, 0, VOID};
    private Image image;
    private final List<TurnModel.Turn> bodies = new ArrayList<>();
    private final List<Integer> trace = new ArrayList<>();
    private final Object[] shelves = new Object[6];

    private static void want(boolean good, int answer) {
        if (!good) {
            throw new No(answer);
        }
    }

    private static boolean within(int v, int least, int most) {
        return v >= least && v <= most;
    }

    // ---- every call by its name

    long call(String name, long[] a) {
        try {
            return answer(name, a);
        } catch (No no) {
            return switch (name) {
                case "hangs", "oneMore", "tieOn" -> VOID;
                case "element" -> Long.MIN_VALUE;
                default -> no.answer;
            };
        }
    }

    private long answer(String name, long[] v) {
        int[] a = new int[5];
        for (int i = 0; i < v.length; i++) {
            a[i] = (int) v[i];
        }
        return switch (name) {
            case "tie" -> tie(a[0], a[1]);
            case "ties" -> tiesFrom(a[0], a[1], a[2]);
            case "tier" -> tier(a[0], a[1]);
            case "mend" -> mend(a[0], a[1], a[2]);
            case "of" -> of(a[0], a[1]);
            case "feed" -> feed(a[0]);
            case "law" -> law();
            case "hangs" -> hangs(a[0], a[1], a[2]);
            case "where" -> where(a[0], a[1]);
            case "knot" -> knot(a[0], a[1]);
            case "correct" -> correct(a[0], a[1], a[2]);
            case "share" -> share(a[0], a[1]);
            case "bow" -> bow(a[0], a[1]);
            case "stain" -> stain(a[0], a[1]);
            case "hide" -> hide(a[0]);
            case "fit" -> fit(a[0], a[1]);
            case "wear" -> wear(a[0], a[1]);
            case "takes" -> takes(a[0], a[1]);
            case "six" -> six(a[0], a[1], a[2]);
            case "order" -> order(a[0], a[1], a[2]);
            case "taxi" -> taxi(a[0], a[1], a[2]);
            case "oneMore" -> oneMore(a[0], a[1], a[2]);
            case "judge" -> judge(a[0], a[1], a[2]);
            case "which" -> which(a[0], a[1], a[2]);
            case "began" -> began(a[0], a[1], a[2]);
            case "thickness" -> thickness(a[0], a[1], a[2]);
            case "drawn" -> drawn(a[0], a[1], a[2], a[3]);
            case "tieOn" -> tieOn(a[0], a[1]);
            case "untie" -> untie(a[0]);
            case "led" -> within(a[0], 0, 3) ? led[a[0]] : BAD;
            case "image" -> keepImage();
            case "back" -> back();
            case "undo" -> undo();
            case "redo" -> redo();
            case "body" -> body(a[0]);
            case "act" -> act(a[0], a[1], a[2]);
            case "trace" -> within(a[0], 0, Math.min(24, trace.size()) - 1) ? trace.get(a[0]) : BAD;
            case "keep" -> keep(a[0], a[1]);
            case "row" -> row(a[0], a[1], a[2]);
            case "put" -> put(a[0], a[1], v[2]);
            case "element" -> elements(a[0], a[1])[a[1]];
            case "shift" -> shift(a[0], a[1], a[2], a[3], a[4]);
            case "taken" -> taken(a[0], a[1]);
            case "count" -> count(a[0]);
            default -> throw new IllegalStateException(name);
        };
    }

    // ---- ties, knots, tiers

    private int tie(int length, int thick) {
        want(within(length, 40, 200) && within(thick, 1, 9), BAD);
        want(ties.size() < 8, FULL);
        Tie tie = new Tie();
        tie.length = length;
        tie.thick = thick;
        ties.add(tie);
        return ties.size() - 1;
    }

    private int tiesFrom(int shelf, int i, int n) {
        want(within(shelf, 0, 5) && within(n, 1, 8), BAD);
        if (shelves[shelf] == null) {
            return 0;
        }
        want(shelves[shelf] instanceof Row row && row.sort == 1, -12);
        long[] e = ((Row) shelves[shelf]).elements;
        int came = 0;
        try {
            for (; came < n; came++) {
                int at = i + 3 * came;
                int slips = (int) e[at + 2];
                if (!within(slips, 0, 9)) {
                    break;
                }
                int number = tie((int) e[at], (int) e[at + 1]);
                ties.get(number).slips = slips;
            }
        } catch (No | IndexOutOfBoundsException end) {
            return came;
        }
        return came;
    }

    private int tier(int ps, int b) {
        want(within(ps, 11, 94) && within(ps % 10, 1, 4) && within(b, 0, 200), BAD);
        want(tiers.size() < 6, FULL);
        Tier tier = new Tier();
        tier.pace = ps / 10;
        tier.share = ps % 10;
        tier.begins = b;
        tiers.add(tier);
        return tiers.size() - 1;
    }

    private int of(int number, int what) {
        want(within(what, 0, 12), BAD);
        int many = what < 5 || what == 12 ? ties.size() : what == 5 ? 5 : what < 9 ? 1 : tiers.size();
        want(within(number, 0, many - 1), BAD);
        return switch (what) {
            case 0 -> ties.get(number).length;
            case 1 -> ties.get(number).thick;
            case 2 -> ties.get(number).slips;
            case 3 -> ties.get(number).stain;
            case 4 -> ties.get(number).worn;
            case 5 -> turns[number];
            case 6 -> neck;
            case 7 -> belt;
            case 8 -> near;
            case 9 -> tiers.get(number).pace;
            case 10 -> tiers.get(number).share;
            case 11 -> tiers.get(number).begins;
            default -> ties.get(number).often;
        };
    }

    private void become(int number, int what, int v) {
        switch (what) {
            case 0 -> ties.get(number).length = v;
            case 1 -> ties.get(number).thick = v;
            case 2 -> ties.get(number).slips = v;
            case 3 -> ties.get(number).stain = v;
            case 4 -> ties.get(number).worn = v;
            case 5 -> turns[number] = v;
            case 6 -> neck = v;
            case 7 -> belt = v;
            case 8 -> near = v;
            case 9 -> tiers.get(number).pace = v;
            case 10 -> tiers.get(number).share = v;
            default -> tiers.get(number).begins = v;
        }
    }

    private static boolean isSo(int what, int v) {
        return switch (what) {
            case 0 -> within(v, 40, 200);
            case 1, 5, 9 -> within(v, 1, 9);
            case 2, 8 -> within(v, 0, 9);
            case 3, 11 -> within(v, 0, 200);
            case 4 -> within(v, 0, 99);
            case 6 -> within(v, 20, 60);
            case 7 -> within(v, 10, 99);
            case 10 -> within(v, 1, 4);
            default -> false;
        };
    }

    private int mend(int number, int what, int v) {
        want(isSo(what, v), BAD);
        int was = of(number, what);
        if (was != v) {
            become(number, what, v);
            done.addLast(new Change(number, what, was, v));
            undone.clear();
            if (done.size() > 40) {
                done.removeFirst();
            }
        }
        return was;
    }

    private int feed(int letter) {
        want(within(letter, 0, 255), BAD);
        want(tape.size() < 120, FULL);
        tape.add(letter);
        return tape.size();
    }

    private int law() {
        int[] bytes = tape.stream().mapToInt(Integer::intValue).toArray();
        tape.clear();
        int fault = LawModel.fault(bytes);
        if (fault >= 0) {
            return -100 - fault;
        }
        StringBuilder text = new StringBuilder();
        for (int b : bytes) {
            text.append((char) b);
        }
        law = text.toString();
        return 1;
    }

    // ---- in thought

    private int cloth(Tie t, int knot, int b) {
        if (law == null) {
            return Math.max(0, t.thick * (turns[knot] + 1) - t.slips - t.worn / 10);
        }
        Map<Character, Integer> names = new HashMap<>();
        names.put('t', t.thick);
        names.put('k', turns[knot]);
        names.put('s', t.slips);
        names.put('w', t.worn);
        names.put('n', neck);
        names.put('b', b);
        return Math.max(0, Math.min(60, LawModel.value(law, names)));
    }

    private boolean right(Tie t, int b, int broad) {
        int thin = t.length - neck - b;
        return broad >= belt - near && broad <= belt + near && thin >= 0 && thin < broad;
    }

    private boolean right(Tie t, int knot, int b, boolean unused) {
        return right(t, b, b - cloth(t, knot, b));
    }

    private Tie tieOf(int tk) {
        want(tk >= 0 && tk / 10 < ties.size() && tk % 10 < 5, BAD);
        return ties.get(tk / 10);
    }

    private static void wantB(int b) {
        want(within(b, 0, 200), BAD);
    }

    private static void wantWhat(int what, int most) {
        want(within(what, 0, most), BAD);
    }

    private static void wantBs(int bs) {
        want(within(bs, 1, 2004) && within(bs % 10, 1, 4), BAD);
    }

    private static int least(int from, int to, IntPredicate isSo) {
        return IntStream.rangeClosed(from, to).filter(isSo).findFirst().orElse(NOT);
    }

    private int hangs(int tk, int b, int what) {
        Tie t = tieOf(tk);
        wantB(b);
        wantWhat(what, 3);
        int cloth = cloth(t, tk % 10, b);
        return new int[] {b - cloth, t.length - neck - b, right(t, b, b - cloth) ? 1 : 0, cloth}[what];
    }

    private int[] rightOnes(Tie t, int knot) {
        return IntStream.rangeClosed(0, 200).filter(b -> right(t, knot, b, true)).toArray();
    }

    private int where(int tk, int what) {
        Tie t = tieOf(tk);
        wantWhat(what, 2);
        int[] ones = rightOnes(t, tk % 10);
        if (what == 1) {
            return ones.length;
        }
        want(ones.length > 0, NOT);
        return what == 0 ? ones[0] : ones[ones.length - 1];
    }

    private int knot(int tie, int what) {
        want(within(tie, 0, ties.size() - 1), BAD);
        wantWhat(what, 1);
        int best = NOT;
        int most = 0;
        for (int k = 0; k < 5; k++) {
            int ones = rightOnes(ties.get(tie), k).length;
            int worth = what == 0 ? ones : ones > 0 ? turns[k] : 0;
            if (worth > most) {
                best = k;
                most = worth;
            }
        }
        return best;
    }

    private int next(int b, int broad, int share) {
        int by = (belt - broad) / share;
        int to = by != 0 ? b + by : broad > belt ? b - 1 : b + 1;
        return to < 0 ? 0 : to > 200 ? 200 : to;
    }

    private Tried tried(Tie t, int knot, int b, int share) {
        int tries = 1;
        while (!right(t, knot, b, true)) {
            if (tries == 60) {
                return null;
            }
            b = next(b, b - cloth(t, knot, b), share);
            tries++;
        }
        return new Tried(tries, b);
    }

    private int correct(int tk, int bs, int what) {
        Tie t = tieOf(tk);
        wantBs(bs);
        wantWhat(what, 1);
        Tried tried = tried(t, tk % 10, bs / 10, bs % 10);
        want(tried != null, NOT);
        return what == 0 ? tried.tries : tried.b;
    }

    private int share(int tk, int b) {
        Tie t = tieOf(tk);
        wantB(b);
        int best = NOT;
        int fewest = 999;
        for (int share = 1; share <= 4; share++) {
            Tried tried = tried(t, tk % 10, b, share);
            if (tried != null && tried.tries < fewest) {
                best = share;
                fewest = tried.tries;
            }
        }
        return best;
    }

    private int bow(int tk, int what) {
        Tie t = tieOf(tk);
        wantWhat(what, 1);
        for (int apart = 0;; apart++) {
            for (int b = 0; b <= 200; b++) {
                if (Math.abs((b - cloth(t, tk % 10, b)) - (t.length - neck - b)) == apart) {
                    return what == 0 ? b : apart;
                }
            }
        }
    }

    private int stain(int tk, int b) {
        Tie t = tieOf(tk);
        wantB(b);
        int cloth = cloth(t, tk % 10, b);
        int broad = b - cloth;
        boolean tucked = t.stain > broad && t.stain <= broad + cloth;
        return tucked ? 2 : t.stain <= broad ? 1 : 0;
    }

    private int hide(int tk) {
        Tie t = tieOf(tk);
        return least(0, 200, b -> right(t, tk % 10, b, true) && stain(tk, b) != 1);
    }

    private int fit(int tk, int what) {
        Tie t = tieOf(tk);
        wantWhat(what, 1);
        int was = neck;
        int answer = NOT;
        for (neck = 20; neck <= 60; neck++) {
            if (rightOnes(t, tk % 10).length > 0 && (what == 1 || answer == NOT)) {
                answer = neck;
            }
        }
        neck = was;
        return answer;
    }

    private int wear(int tk, int b) {
        Tie t = tieOf(tk);
        wantB(b);
        int was = t.worn;
        t.worn = 0;
        while (t.worn < 100 && right(t, tk % 10, b, true)) {
            t.worn++;
        }
        int answer = t.worn == 0 ? NOT : t.worn - 1;
        t.worn = was;
        return answer;
    }

    // ---- six who dress

    private int minutes(Tier tier, Tie t, int knot) {
        Tried tried = tried(t, knot, tier.begins, tier.share);
        return tier.pace * (tried == null ? 60 : tried.tries);
    }

    private int takes(int tier, int tk) {
        want(within(tier, 0, tiers.size() - 1), BAD);
        return minutes(tiers.get(tier), tieOf(tk), tk % 10);
    }

    private Row rowOf(int shelf, int sort) {
        want(shelves[shelf] != null, -11);
        want(shelves[shelf] instanceof Row row && row.sort == sort, -12);
        return (Row) shelves[shelf];
    }

    private List<Integer> dressed(int shelf, int knot, boolean good) {
        want(within(shelf, 0, 5) && within(knot, 0, 4) && good, BAD);
        LinkedHashSet<Integer> found = new LinkedHashSet<>();
        for (long e : rowOf(shelf, 0).elements) {
            if (e < 0 || e >= ties.size() || found.size() == 6 || !found.add((int) e)) {
                break;
            }
        }
        return new ArrayList<>(found);
    }

    /** Who ties each of them, and when each is done. */
    private int[][] worked(List<Integer> row, int knot, List<Tier> all) {
        int[] free = new int[all.size()];
        int[][] answer = new int[2][row.size()];
        for (int i = 0; i < row.size(); i++) {
            int who = 0;
            for (int tier = 0; tier < free.length; tier++) {
                who = free[tier] < free[who] ? tier : who;
            }
            free[who] += minutes(all.get(who), ties.get(row.get(i)), knot);
            answer[0][i] = who;
            answer[1][i] = free[who];
        }
        return answer;
    }

    private static int last(int[][] worked) {
        return IntStream.of(worked[1]).max().orElse(0);
    }

    private int six(int shelf, int knot, int k) {
        List<Integer> row = dressed(shelf, knot, k >= -1);
        want(!tiers.isEmpty() && k < row.size(), NOT);
        int[][] worked = worked(row, knot, tiers);
        return k < 0 ? last(worked) : worked[0][k];
    }

    private void orders(List<Integer> so, List<Integer> rest, List<List<Integer>> all) {
        if (rest.isEmpty()) {
            all.add(new ArrayList<>(so));
        }
        for (int i = 0; i < rest.size(); i++) {
            List<Integer> less = new ArrayList<>(rest);
            so.add(less.remove(i));
            orders(so, less, all);
            so.remove(so.size() - 1);
        }
    }

    private int order(int shelf, int knot, int k) {
        List<Integer> row = dressed(shelf, knot, k >= -1);
        want(row.size() <= 5, STATE);
        want(!tiers.isEmpty() && k < row.size(), NOT);
        List<List<Integer>> all = new ArrayList<>();
        orders(new ArrayList<>(), row, all);
        List<Integer> best = all.get(0);
        for (List<Integer> one : all) {
            best = last(worked(one, knot, tiers)) < last(worked(best, knot, tiers)) ? one : best;
        }
        return k < 0 ? last(worked(best, knot, tiers)) : best.get(k);
    }

    private int taxi(int shelf, int knot, int m) {
        List<Integer> row = dressed(shelf, knot, within(m, 0, 9999));
        want(!tiers.isEmpty(), NOT);
        return (int) IntStream.of(worked(row, knot, tiers)[1]).filter(at -> at <= m).count();
    }

    private int oneMore(int shelf, int knot, int tier) {
        List<Integer> row = dressed(shelf, knot, within(tier, 0, tiers.size() - 1));
        List<Tier> more = new ArrayList<>(tiers);
        more.add(tiers.get(tier));
        return last(worked(row, knot, tiers)) - last(worked(row, knot, more));
    }

    // ---- tries read back, drawn

    private int firstWrong(Row row, Tie t, int knot, int b, int share) {
        List<Long> due = new ArrayList<>();
        for (int i = 0; i < 60; i++) {
            int broad = b - cloth(t, knot, b);
            due.add((long) broad);
            if (right(t, b, broad)) {
                break;
            }
            b = next(b, broad, share);
        }
        for (int i = 0; i < row.elements.length; i++) {
            if (i >= due.size() || due.get(i) != row.elements[i]) {
                return i;
            }
        }
        return NOT;
    }

    private int judge(int shelf, int tk, int bs) {
        want(within(shelf, 0, 5), BAD);
        Tie t = tieOf(tk);
        wantBs(bs);
        return firstWrong(rowOf(shelf, 1), t, tk % 10, bs / 10, bs % 10);
    }

    private int which(int shelf, int tie, int bs) {
        want(within(shelf, 0, 5) && within(tie, 0, ties.size() - 1), BAD);
        wantBs(bs);
        Row row = rowOf(shelf, 1);
        int bits = 0;
        for (int k = 4; k >= 0; k--) {
            bits = bits * 2 + (firstWrong(row, ties.get(tie), k, bs / 10, bs % 10) == NOT ? 1 : 0);
        }
        return bits;
    }

    private int began(int shelf, int tk, int share) {
        want(within(shelf, 0, 5), BAD);
        Tie t = tieOf(tk);
        want(within(share, 1, 4), BAD);
        Row row = rowOf(shelf, 1);
        return least(0, 200, b -> firstWrong(row, t, tk % 10, b, share) == NOT);
    }

    private int thickness(int shelf, int tk, int bs) {
        want(within(shelf, 0, 5), BAD);
        Tie t = tieOf(tk);
        wantBs(bs);
        Row row = rowOf(shelf, 1);
        int was = t.thick;
        int answer = least(1, 9, thick -> {
            t.thick = thick;
            return firstWrong(row, t, tk % 10, bs / 10, bs % 10) == NOT;
        });
        t.thick = was;
        return answer;
    }

    private int drawn(int tk, int bs, int seed, int nw) {
        Tie t = tieOf(tk);
        wantBs(bs);
        want(within(nw, 10, 501) && nw % 10 <= 1, BAD);
        int z = seed;
        int all = 0;
        int never = 0;
        for (int n = 0; n < nw / 10; n++) {
            int b = bs / 10;
            boolean isRight = false;
            for (int i = 0; i < 60 && !isRight; i++) {
                z = z * 1103515245 + 12345;
                int broad = b - Math.max(0, cloth(t, tk % 10, b) + (z >>> 8) % 3 - 1);
                isRight = right(t, b, broad);
                b = next(b, broad, bs % 10);
                all++;
            }
            never += isRight ? 0 : 1;
        }
        return nw % 10 == 0 ? all : never;
    }

    // ---- in deed

    private int tieOn(int tk, int b) {
        Tie t = tieOf(tk);
        wantB(b);
        int broad = b - cloth(t, tk % 10, b);
        led[0]++;
        led[1] += right(t, b, broad) ? 1 : 0;
        led[3] = broad;
        t.worn = Math.min(99, t.worn + 1);
        t.often++;
        return broad;
    }

    private int untie(int tie) {
        want(within(tie, 0, ties.size() - 1), BAD);
        Tie t = ties.get(tie);
        int often = t.often;
        led[2]++;
        t.often = 0;
        return often;
    }

    private int keepImage() {
        image = new Image(ties.stream().map(t -> t.worn).toList(), ties.stream().map(t -> t.often).toList(), led.clone());
        return led[0];
    }

    private int back() {
        want(image != null, STATE);
        led = image.led.clone();
        for (int i = 0; i < ties.size(); i++) {
            ties.get(i).worn = i < image.worn.size() ? image.worn.get(i) : 0;
            ties.get(i).often = i < image.often.size() ? image.often.get(i) : 0;
        }
        return led[0];
    }

    private int undo() {
        want(!done.isEmpty(), STATE);
        Change c = done.removeLast();
        undone.push(c);
        become(c.number, c.what, c.was);
        return done.size();
    }

    private int redo() {
        want(!undone.isEmpty(), STATE);
        Change c = undone.pop();
        done.addLast(c);
        become(c.number, c.what, c.became);
        return undone.size();
    }

    // ---- acts, shelves

    private int body(int kind) {
        want(within(kind, 0, 7), BAD);
        want(bodies.size() < 50, FULL);
        bodies.add(TurnModel.make(kind, bodies.size(), trace));
        return bodies.size() - 1;
    }

    private int act(int body, int act, int x) {
        trace.clear();
        if (!within(body, 0, bodies.size() - 1) || !within(act, 0, 3)) {
            return 0;
        }
        return bodies.get(body).acted(act, x);
    }

    private int keep(int shelf, int body) {
        want(within(shelf, 0, 5) && within(body, -1, bodies.size() - 1), BAD);
        shelves[shelf] = body < 0 ? null : bodies.get(body);
        return 1;
    }

    private int row(int shelf, int sort, int n) {
        want(within(shelf, 0, 5) && within(sort, 0, 4) && n <= 60, BAD);
        want(n >= 0, -14);
        shelves[shelf] = new Row(sort, new long[n]);
        return 1;
    }

    private long[] elements(int shelf, int i) {
        want(within(shelf, 0, 5), BAD);
        want(shelves[shelf] != null, -11);
        want(shelves[shelf] instanceof Row, -12);
        long[] e = ((Row) shelves[shelf]).elements;
        want(within(i, 0, e.length - 1), -13);
        return e;
    }

    private int put(int shelf, int i, long v) {
        long[] e = elements(shelf, i);
        int sort = ((Row) shelves[shelf]).sort;
        int gone = new int[] {56, 48, 32, 0, 0}[sort];
        e[i] = sort == 4 ? Math.abs(Long.signum(v)) : v << gone >> gone;
        return 1;
    }

    private int shift(int shelf, int i, int other, int j, int n) {
        want(within(shelf, 0, 5) && within(other, 0, 5), BAD);
        want(shelves[shelf] != null && shelves[other] != null, -11);
        want(shelves[shelf] instanceof Row && shelves[other] instanceof Row, -12);
        Row from = (Row) shelves[shelf];
        Row to = (Row) shelves[other];
        want(from.sort == to.sort, -12);
        want(i >= 0 && j >= 0 && n >= 0, -13);
        want((long) i + n <= from.elements.length && (long) j + n <= to.elements.length, -13);
        long[] before = from.elements.clone();
        for (int at = 0; at < n; at++) {
            to.elements[j + at] = before[i + at];
        }
        return n;
    }

    private int taken(int shelf, int k) {
        want(within(shelf, 0, 5) && within(k, 0, 7), BAD);
        want(shelves[shelf] != null, -11);
        want(shelves[shelf] instanceof TurnModel.Turn turn && TurnModel.isUnder(turn, k), -12);
        return ((TurnModel.Turn) shelves[shelf]).kind;
    }

    private int count(int what) {
        List<Integer> all = new ArrayList<>();
        Collections.addAll(all, ties.size(), tiers.size(), tape.size(), done.size(), bodies.size(), trace.size());
        return within(what, 0, 5) ? all.get(what) : BAD;
    }
}
