/** EndTooLong called by the name of the method, so that a run of calls can be data. */
final class Calls {
    private Calls() {
    }

    static long call(EndTooLong x, String name, long[] v) {
        int[] a = new int[5];
        for (int i = 0; i < v.length; i++) {
            a[i] = (int) v[i];
        }
        return switch (name) {
            case "tie" -> x.tie(a[0], a[1]);
            case "ties" -> x.ties(a[0], a[1], a[2]);
            case "tier" -> x.tier(a[0], a[1]);
            case "mend" -> x.mend(a[0], a[1], a[2]);
            case "of" -> x.of(a[0], a[1]);
            case "feed" -> x.feed(a[0]);
            case "law" -> x.law();
            case "hangs" -> x.hangs(a[0], a[1], a[2]);
            case "where" -> x.where(a[0], a[1]);
            case "knot" -> x.knot(a[0], a[1]);
            case "correct" -> x.correct(a[0], a[1], a[2]);
            case "share" -> x.share(a[0], a[1]);
            case "bow" -> x.bow(a[0], a[1]);
            case "stain" -> x.stain(a[0], a[1]);
            case "hide" -> x.hide(a[0]);
            case "fit" -> x.fit(a[0], a[1]);
            case "wear" -> x.wear(a[0], a[1]);
            case "takes" -> x.takes(a[0], a[1]);
            case "six" -> x.six(a[0], a[1], a[2]);
            case "order" -> x.order(a[0], a[1], a[2]);
            case "taxi" -> x.taxi(a[0], a[1], a[2]);
            case "oneMore" -> x.oneMore(a[0], a[1], a[2]);
            case "judge" -> x.judge(a[0], a[1], a[2]);
            case "which" -> x.which(a[0], a[1], a[2]);
            case "began" -> x.began(a[0], a[1], a[2]);
            case "thickness" -> x.thickness(a[0], a[1], a[2]);
            case "drawn" -> x.drawn(a[0], a[1], a[2], a[3]);
            case "tieOn" -> x.tieOn(a[0], a[1]);
            case "untie" -> x.untie(a[0]);
            case "led" -> x.led(a[0]);
            case "image" -> x.image();
            case "back" -> x.back();
            case "undo" -> x.undo();
            case "redo" -> x.redo();
            case "body" -> x.body(a[0]);
            case "act" -> x.act(a[0], a[1], a[2]);
            case "trace" -> x.trace(a[0]);
            case "keep" -> x.keep(a[0], a[1]);
            case "row" -> x.row(a[0], a[1], a[2]);
            case "put" -> x.put(a[0], a[1], v[2]);
            case "element" -> x.element(a[0], a[1]);
            case "shift" -> x.shift(a[0], a[1], a[2], a[3], a[4]);
            case "taken" -> x.taken(a[0], a[1]);
            case "count" -> x.count(a[0]);
            default -> throw new IllegalStateException(name);
        };
    }

    static String shown(String name, long[] v) {
        StringBuilder text = new StringBuilder(name).append('(');
        for (int i = 0; i < v.length; i++) {
            text.append(i == 0 ? "" : ", ").append(v[i]);
        }
        return text.append(')').toString();
    }
}
