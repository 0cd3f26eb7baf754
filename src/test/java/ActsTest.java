/** Promises 20 to 29: dies stolen, FORGERIES, DAYS, robbers, deaths, closing, STROKES, foreign COINS, silver. */
public final class ActsTest {
    private static final String LAW = "who a;who b;who c;mint m 2 4;mint n 5 9;thin 20;faces 3;";

    public static void main(String[] args) {
        stealing();
        forging();
        days();
        robbing();
        dying();
        diesBackByDeath();
        closing();
        strokes();
        foreign();
        silver();
        Desk.close();
    }

    private static void stealing() {
        FaceCoins x = Desk.under(LAW);
        Desk.no("himself", x.steal(1, 1));
        Desk.no("no thief", x.steal(3, 1));
        Desk.no("no thief", x.steal(-1, 1));
        Desk.no("no victim", x.steal(1, 3));
        Desk.no("no victim", x.steal(1, -1));
        Desk.due("none stolen", x.count(9), -1);
        Desk.yes("stolen", x.steal(1, 2));
        Desk.due("whose", x.count(9), 2);
        Desk.due("who has it", x.count(10), 1);
        Desk.no("one at a time", x.steal(0, 1));
        Desk.no("the same", x.steal(1, 2));
        x.day();
        x.dies(2, 0);
        Desk.no("dead victim", x.steal(1, 2));
        Desk.no("dead thief", x.steal(2, 1));
        Desk.yes("others", x.steal(1, 0));
    }

    private static void forging() {
        FaceCoins x = Desk.under(LAW);
        x.coin(0, 100, 0);
        x.coin(1, 22, 0);
        x.coin(1, 100, 0);
        Desk.due("no die", x.forge(2, 0), 1);
        Desk.due("no coin, no die", x.forge(3, 0), -1);
        x.steal(1, 2);
        Desk.due("no coin", x.forge(3, 0), -1);
        Desk.due("no coin", x.forge(-1, 0), -1);
        Desk.due("no mint", x.forge(2, 2), -1);
        Desk.due("no mint", x.forge(2, -1), -1);
        Desk.due("not his", x.forge(0, 0), 2);
        Desk.due("too thin", x.forge(1, 0), 5);
        Desk.due("strokes", x.strokes(), 3);
        Desk.due("done", x.forge(2, 0), 0);
        Desk.due("the victim's face", x.face(2, 0, 0), 2);
        Desk.due("still the thief's", x.of(2, 1), 1);
        Desk.due("shows a false one", x.of(2, 4), 1);
        Desk.due("others don't", x.of(0, 4), 0);
        Desk.due("false stroke", x.stroke(3, 5), 1);
        Desk.due("by no sale", x.stroke(3, 4), -1);
        Desk.due("again", x.forge(2, 0), 0);
        Desk.due("faces", x.forge(2, 0), 6);
        x.close(0);
        Desk.due("closed", x.forge(2, 0), 4);
        x.day();
        Desk.due("the die is back", x.forge(2, 1), 1);
        Desk.due("still false", x.of(2, 4), 1);
        // A FALSE FACE that is struck away makes nothing false.
        FaceCoins y = Desk.under(LAW);
        y.coin(1, 100, 0);
        y.steal(1, 2);
        y.forge(0, 0);
        Desk.coins(y, 0);
        Desk.due("sale", y.sale(1, 0, 1, 5), 0);
        Desk.due("not false now", y.of(0, 4), 0);
        Desk.due("that stroke is gone", y.stroke(1, 6), 0);
        Desk.due("and was false", y.stroke(1, 5), 1);
    }

    private static void days() {
        FaceCoins x = Desk.under(LAW);
        for (int d = 1; d <= 30; d++) Desk.due("day", x.day(), d);
        Desk.due("day 30", x.count(8), 30);
        x.coin(0, 100, 0);
        Desk.due("its day", x.stroke(0, 3), 30);
        x.steal(0, 1);
        Desk.due("day 31", x.day(), 31);
        Desk.due("back", x.count(9), -1);
        Desk.due("nobody has it", x.count(10), -1);
        Desk.due("undo", x.undo(), 5);
        Desk.due("stolen again", x.count(9), 1);
        Desk.due("day 30 again", x.count(8), 30);
        FaceCoins y = new FaceCoins();
        for (int d = 0; d < 9998; d++) y.day();
        Desk.due("day 9999", y.day(), 9999);
        Desk.due("no day 10000", y.day(), -1);
        Desk.due("it stays", y.count(8), 9999);
    }

    private static void robbing() {
        FaceCoins x = Desk.under(LAW);
        x.coin(0, 100, 0);
        Desk.no("his own", x.rob(0, 0));
        Desk.no("no coin", x.rob(1, 1));
        Desk.no("no coin", x.rob(1, -1));
        Desk.no("no who", x.rob(3, 0));
        Desk.no("no who", x.rob(-1, 0));
        Desk.yes("robbed", x.rob(1, 0));
        Desk.due("owner", x.of(0, 1), 1);
        Desk.due("face stays", x.face(0, 0, 0), 0);
        Desk.due("grains stay", x.of(0, 0), 98);
        Desk.due("no stroke", x.strokes(), 1);
        x.dies(2, 0);
        Desk.no("dead", x.rob(2, 0));
    }

    private static void dying() {
        FaceCoins x = Desk.under(LAW);
        x.coin(0, 100, 0);
        x.coin(0, 100, 0);
        x.coin(1, 100, 0);
        x.rob(0, 2);
        x.rob(1, 0);
        Desk.due("his own heir", x.dies(0, 0), -1);
        Desk.due("no who", x.dies(3, 0), -1);
        Desk.due("no who", x.dies(-1, 0), -1);
        Desk.due("no heir", x.dies(0, 3), -1);
        Desk.due("no heir", x.dies(0, -1), -1);
        Desk.due("dies", x.dies(0, 2), 2);
        Desk.due("heir's", x.of(1, 1), 2);
        Desk.due("heir's", x.of(2, 1), 2);
        Desk.due("not his", x.of(0, 1), 1);
        Desk.due("dead", x.who(0, 2), 1);
        Desk.due("twice", x.dies(0, 1), -1);
        Desk.due("dead heir", x.dies(1, 0), -1);
        Desk.due("of what he has", x.dies(1, 2), 1);
        Desk.due("the last one", x.dies(2, 2), -1);
        FaceCoins y = Desk.under(LAW);
        Desk.due("without coins", y.dies(0, 1), 0);
        Desk.due("is an act", y.undo(), 0);
        Desk.due("lives", y.who(0, 2), 0);
    }

    private static void diesBackByDeath() {
        FaceCoins x = Desk.under(LAW);
        x.steal(0, 1);
        x.dies(2, 0);
        Desk.due("of others, it stays", x.count(9), 1);
        x.undo();
        x.dies(0, 2);
        Desk.due("of the thief", x.count(9), -1);
        Desk.due("nobody has it", x.count(10), -1);
        x.undo();
        Desk.due("again", x.count(10), 0);
        x.dies(1, 2);
        Desk.due("of the victim", x.count(9), -1);
        Desk.due("nobody has it", x.count(10), -1);
    }

    private static void closing() {
        FaceCoins x = Desk.under(LAW);
        Desk.no("no mint", x.close(2));
        Desk.no("no mint", x.close(-1));
        Desk.yes("closed", x.close(1));
        Desk.no("already", x.close(1));
        Desk.due("one act", x.undo(), 0);
        Desk.due("open", x.mint(1, 2), 0);
        Desk.yes("closed again", x.close(1));
    }

    private static void strokes() {
        FaceCoins x = Desk.under(LAW);
        Desk.due("none", x.strokes(), 0);
        Desk.none("stroke(0, 0)", () -> x.stroke(0, 0));
        x.coin(0, 100, 0);
        x.coin(1, 100, 1);
        x.day();
        Desk.coins(x, 0);
        x.sale(0, 2, 0, 1);
        Desk.coins(x, 1);
        x.sale(1, 2, 1, 1);
        Desk.due("four", x.strokes(), 4);
        int[][] told = {{0, 0, 0, 0, -1, 0, 1}, {1, 1, 1, 0, -1, 0, 0}, {0, 2, 0, 1, 0, 0, 1}, {1, 2, 1, 1, 1, 0, 1}};
        for (int k = 0; k < 4; k++) {
            for (int i = 0; i < 7; i++) Desk.due("stroke " + k + " " + i, x.stroke(k, i), told[k][i]);
        }
        Desk.none("stroke(4, 0)", () -> x.stroke(4, 0));
        Desk.none("stroke(-1, 0)", () -> x.stroke(-1, 0));
        Desk.none("stroke(0, 7)", () -> x.stroke(0, 7));
        Desk.none("stroke(0, -1)", () -> x.stroke(0, -1));
        x.undo();
        Desk.none("stroke(3, 0) undone", () -> x.stroke(3, 0));
        Desk.due("shown again", x.stroke(1, 6), 1);
    }

    private static void foreign() {
        FaceCoins x = Desk.under(LAW);
        for (int c = 0; c < 5; c++) x.coin(0, 100, 0);
        Desk.due("none", x.foreign(-1), 0);
        Desk.due("none", x.foreign(0), -1);
        x.rob(1, 3);
        x.rob(2, 1);
        x.steal(0, 1);
        x.forge(4, 0);
        Desk.due("three", x.foreign(-1), 3);
        Desk.due("first", x.foreign(0), 1);
        Desk.due("second", x.foreign(1), 3);
        Desk.due("third", x.foreign(2), 4);
        Desk.due("fourth", x.foreign(3), -1);
        Desk.due("-2", x.foreign(-2), -1);
    }

    private static void silver() {
        FaceCoins x = Desk.under(LAW);
        x.coin(0, 100, 0);
        x.coin(1, 60, 1);
        Desk.coins(x, 0);
        x.sale(0, 1, 1, 1);
        Desk.due("made", x.silver(0), 160);
        Desk.due("now", x.silver(1), 93 + 55);
        Desk.due("lost", x.silver(2), 12);
        Desk.due("3", x.silver(3), -1);
        Desk.due("-1", x.silver(-1), -1);
        x.undo();
        x.undo();
        Desk.due("made", x.silver(0), 100);
        Desk.due("lost", x.silver(2), 2);
    }
}
