/** Promises 32 and 33: MARKETS by seeds, ACTS undone. */
public final class MarketAndUndoTest {
    private static final String LAW = "who a;who b begs;who c owes;mint m 2 4;mint n 5 9;takes a b 50;lucky 30;thin 20;faces 4;";

    public static void main(String[] args) {
        notAsTold();
        likeBuying();
        alone();
        marketsAreOneAct();
        sixAreKept();
        eachAct();
        ghostsComeBack();
        notDoneIsNoAct();
        Desk.close();
    }

    private static void notAsTold() {
        FaceCoins x = Desk.under(LAW);
        Desk.due("0", x.market(0, 1), -1);
        Desk.due("51", x.market(51, 1), -1);
        Desk.due("-1", x.market(-1, 1), -1);
        Desk.due("50 of none", x.market(50, 1), 0);
        Desk.due("one act", x.undo(), 0);
        Desk.due("no people", Desk.under("mint m 1 1;").market(1, 1), -1);
        Desk.due("no mints", Desk.under("who a;who b;").market(1, 1), -1);
    }

    /** Drawn here again, and bought one by one. */
    private static void likeBuying() {
        for (int seed = -40; seed < 40; seed++) {
            FaceCoins x = Desk.under(LAW);
            FaceCoins y = Desk.under(LAW);
            for (int c = 0; c < 9; c++) {
                x.coin(c % 3, 60 + 17 * c, c % 2);
                y.coin(c % 3, 60 + 17 * c, c % 2);
            }
            int z = seed * 7919;
            int done = 0;
            for (int i = 0; i < 7; i++) {
                int[] drawn = new int[4];
                int[] of = {3, 3, 2, 200};
                for (int j = 0; j < 4; j++) {
                    z = z * 1103515245 + 12345;
                    drawn[j] = (z >>> 8) % of[j];
                }
                if (drawn[1] == drawn[0]) drawn[1] = (drawn[1] + 1) % 3;
                if (y.buy(drawn[0], drawn[1], drawn[2], drawn[3] + 1) >= 0) done++;
            }
            Desk.due("market " + seed, x.market(7, seed * 7919), done);
            Desk.due("sales", x.sales(), done);
            Desk.due("strokes", x.strokes(), y.strokes());
            for (int k = 0; k < y.sales(); k++) {
                for (int i = 0; i < 7; i++) Desk.due("sold", x.sold(k, i), y.sold(k, i));
            }
            for (int k = 0; k < y.strokes(); k++) {
                for (int i = 0; i < 7; i++) Desk.due("stroke", x.stroke(k, i), y.stroke(k, i));
            }
            for (int c = 0; c < 9; c++) {
                Desk.due("owner", x.of(c, 1), y.of(c, 1));
                Desk.due("paid", x.paid(c), -1);
            }
        }
    }

    private static void alone() {
        FaceCoins x = Desk.under("who a;mint m 1 1;thin 1;");
        x.coin(0, 100, 0);
        Desk.due("with himself", x.market(50, 77), 0);
    }

    private static void marketsAreOneAct() {
        FaceCoins x = Desk.under(LAW);
        for (int c = 0; c < 5; c++) x.coin(c % 3, 150, 0);
        Desk.yes("some are done", x.market(20, 5) > 1);
        Desk.due("undo", x.undo(), 5);
        Desk.due("no sales", x.sales(), 0);
        Desk.due("no strokes", x.strokes(), 5);
        for (int c = 0; c < 5; c++) Desk.due("owner", x.of(c, 1), c % 3);
    }

    private static void sixAreKept() {
        FaceCoins x = Desk.under(LAW);
        Desk.due("none", x.undo(), -1);
        for (int i = 0; i < 9; i++) x.day();
        for (int left = 5; left >= 0; left--) {
            Desk.due("undo", x.undo(), left);
            Desk.due("day", x.count(8), 3 + left);
        }
        Desk.due("no more", x.undo(), -1);
        Desk.due("day stays", x.count(8), 3);
        x.day();
        x.day();
        Desk.due("undo", x.undo(), 1);
        x.day();
        Desk.due("undo again", x.undo(), 1);
        Desk.due("day", x.count(8), 4);
    }

    private static void eachAct() {
        FaceCoins x = Desk.under(LAW);
        x.coin(0, 100, 0);
        x.coin(0, 80, 1);
        x.coin(1, 70, 0);
        String before = seen(x);
        for (int act = 0; act < 10; act++) {
            done(x, act);
            Desk.no("act " + act + " is seen", seen(x).equals(before) && act != 9);
            Desk.yes("undone", x.undo() >= 0);
            Desk.yes("act " + act + " is undone", seen(x).equals(before));
        }
        x.steal(0, 1);
        Desk.due("forge", x.forge(0, 0), 0);
        x.undo();
        x.undo();
        Desk.yes("all undone", seen(x).equals(before));
    }

    private static void done(FaceCoins x, int act) {
        switch (act) {
            case 0 -> Desk.due("coin", x.coin(1, 90, 0), 3);
            case 1 -> {
                Desk.coins(x, 0, 1);
                Desk.due("sale", x.sale(0, 2, 0, 100), 0);
            }
            case 2 -> Desk.due("buy", x.buy(0, 1, 0, 60), 75);
            case 3 -> Desk.yes("steal", x.steal(0, 1));
            case 4 -> Desk.due("day", x.day(), 1);
            case 5 -> Desk.yes("rob", x.rob(2, 0));
            case 6 -> Desk.due("dies", x.dies(0, 2), 2);
            case 7 -> Desk.yes("close", x.close(1));
            case 8 -> Desk.yes("market", x.market(20, 1) > 0);
            default -> Desk.due("market of none", Math.min(0, x.market(1, 1)), 0);
        }
    }

    private static String seen(FaceCoins x) {
        StringBuilder b = new StringBuilder();
        for (int i = 0; i < 11; i++) b.append(x.count(i)).append(' ');
        for (int w = 0; w < 3; w++) for (int i = 0; i < 6; i++) b.append(x.who(w, i)).append(' ');
        for (int m = 0; m < 2; m++) for (int i = 0; i < 4; i++) b.append(x.mint(m, i)).append(' ');
        for (int c = 0; c < x.count(7); c++) {
            for (int i = 0; i < 5; i++) b.append(x.of(c, i)).append(' ');
            for (int f = 0; f < 4; f++) for (int i = 0; i < 3; i++) b.append(x.face(c, f, i)).append(' ');
        }
        b.append(x.strokes()).append(' ').append(x.sales()).append(' ').append(x.silver(0));
        return b.toString();
    }

    private static void ghostsComeBack() {
        FaceCoins x = Desk.under("who a;who b;mint m 2 4;mint n 5 9;thin 20;");
        x.coin(0, 100, 0);
        for (int i = 0; i < 3; i++) {
            Desk.coins(x, 0);
            Desk.due("sale", x.sale(i % 2, 1 - i % 2, i / 2, 5), 0);
        }
        Desk.due("one face", x.of(0, 2), 1);
        x.undo();
        Desk.due("three faces", x.of(0, 2), 3);
        Desk.due("depth 1", x.face(0, 2, 1), 1);
        Desk.due("depth 5", x.face(0, 1, 1), 5);
        x.undo();
        Desk.due("two faces", x.of(0, 2), 2);
        Desk.due("depth 5 again", x.face(0, 1, 1), 5);
        Desk.due("of stroke 0", x.face(0, 1, 2), 0);
    }

    private static void notDoneIsNoAct() {
        FaceCoins x = Desk.under(LAW);
        x.coin(0, 100, 0);
        x.coin(9, 100, 0);
        x.sale(0, 1, 0, 1);
        x.buy(0, 1, 0, 2000);
        x.payment(0, 1, 0, 5);
        x.steal(0, 0);
        x.forge(0, 0);
        x.rob(0, 0);
        x.dies(0, 0);
        x.close(7);
        x.market(0, 0);
        x.rows(0, 100, 1);
        Desk.text(x, "false");
        x.sentence();
        x.image(0);
        Desk.due("one act alone", x.undo(), 0);
        Desk.due("no coin", x.count(7), 0);
        Desk.due("the sentence stays", x.said(-1), 0);
    }
}
