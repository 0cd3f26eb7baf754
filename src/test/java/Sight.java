/**
 * All that the calls of one object show of what stands, without a change; the tape and the latest FAULT aside. It takes
 * some 300 calls for six COINS.
 */
final class Sight {
    private final FaceCoins x;
    private final StringBuilder seen = new StringBuilder();

    private Sight(FaceCoins x) {
        this.x = x;
    }

    static String of(FaceCoins x) {
        Sight sight = new Sight(x);
        sight.law();
        sight.coins();
        sight.done();
        sight.told();
        return sight.seen.toString();
    }

    /** What an ACT changes, in few calls. */
    static String ofActs(FaceCoins x) {
        Sight sight = new Sight(x);
        for (int what = 7; what <= 10; what++) sight.put(x.count(what));
        sight.put(x.strokes()).put(x.sales()).put(x.silver(0)).put(x.silver(1));
        for (int w = 0; w < x.count(0); w++) sight.put(x.who(w, 2)).put(x.who(w, 3)).put(x.who(w, 5));
        for (int m = 0; m < x.count(1); m++) sight.put(x.mint(m, 2));
        return sight.seen.toString();
    }

    private Sight put(int n) {
        seen.append(n).append(' ');
        return this;
    }

    private void law() {
        for (int what = 0; what <= 10; what++) put(x.count(what));
        seen.append('\n');
        for (int w = 0; w < x.count(0); w++) for (int what = 0; what < 6; what++) put(x.who(w, what));
        seen.append('\n');
        for (int m = 0; m < x.count(1); m++) for (int what = 0; what < 4; what++) put(x.mint(m, what));
        seen.append('\n');
    }

    private void coins() {
        int people = x.count(0);
        int mints = x.count(1);
        for (int c = 0; c < x.count(7); c++) {
            for (int what = 0; what < 5; what++) put(x.of(c, what));
            for (int i = 0; i < x.of(c, 2); i++) for (int what = 0; what < 3; what++) put(x.face(c, i, what));
            for (int w = 0; w < people; w++) put(x.value(w, c, 0));
            for (int m = 0; m < mints; m++) put(x.bears(c, m));
            seen.append('\n');
        }
        put(x.luck());
    }

    private void done() {
        int strokes = x.strokes();
        int sales = x.sales();
        for (int k = 0; k < strokes; k++) for (int what = 0; what < 7; what++) put(x.stroke(k, what));
        seen.append('\n');
        for (int k = 0; k < sales; k++) for (int what = 0; what < 7; what++) put(x.sold(k, what));
        seen.append('\n');
        for (int what = 0; what < 3; what++) put(x.silver(what));
        for (int k = -1; k < 3; k++) put(x.foreign(k)).put(x.said(k));
        seen.append('\n');
    }

    private void told() {
        for (int c = 0; c < x.count(7); c++) put(x.paid(c));
        for (int i = 0; i < 3; i++) put(x.could(i, 0)).put(x.could(i, 1));
    }
}
