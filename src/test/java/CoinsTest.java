/** Promises 6 to 13: COINS made, their FACES, what they are taken at, LUCK, how many STROKES they can bear. */
public final class CoinsTest {
    private static final String LAW =
        "who a;who b begs;who c owes;who d begs;mint m 2 4;mint n 5 9;takes a b 50;takes b a 0;lucky 30;dead 40;thin 20;faces 4;";

    public static void main(String[] args) {
        making();
        notAsTold();
        fortyCoins();
        ghosts();
        deepestGhosts();
        people();
        mints();
        hundredths();
        luck();
        bearing();
        Desk.close();
    }

    private static void making() {
        FaceCoins x = Desk.under(LAW);
        Desk.due("coin", x.coin(0, 100, 0), 0);
        Desk.due("coin", x.coin(1, 9999, 1), 1);
        Desk.due("grains", x.of(0, 0), 98);
        Desk.due("owner", x.of(0, 1), 0);
        Desk.due("faces", x.of(0, 2), 1);
        Desk.due("had", x.of(0, 3), 1);
        Desk.due("false", x.of(0, 4), 0);
        Desk.due("grains 1", x.of(1, 0), 9994);
        Desk.due("owner 1", x.of(1, 1), 1);
        Desk.due("face", x.face(1, 0, 0), 1);
        Desk.due("depth", x.face(1, 0, 1), 9);
        Desk.due("stroke", x.face(1, 0, 2), 1);
        Desk.none("of(2, 0)", () -> x.of(2, 0));
        Desk.none("of(-1, 0)", () -> x.of(-1, 0));
        Desk.none("of(0, 5)", () -> x.of(0, 5));
        Desk.none("of(0, -1)", () -> x.of(0, -1));
        Desk.due("face of none", x.face(2, 0, 0), -1);
        Desk.due("face(-1, 0, 0)", x.face(-1, 0, 0), -1);
        Desk.due("face(0, 1, 0)", x.face(0, 1, 0), -1);
        Desk.due("face(0, -1, 0)", x.face(0, -1, 0), -1);
        Desk.due("face(0, 0, 3)", x.face(0, 0, 3), -1);
        Desk.due("face(0, 0, -1)", x.face(0, 0, -1), -1);
    }

    private static void notAsTold() {
        FaceCoins x = Desk.under(LAW);
        Desk.due("grains 0", x.coin(0, 0, 0), -1);
        Desk.due("grains 10000", x.coin(0, 10000, 0), -1);
        Desk.due("grains -5", x.coin(0, -5, 0), -1);
        Desk.due("too thin", x.coin(0, 21, 0), -1);
        Desk.due("just thick", x.coin(0, 22, 0), 0);
        Desk.due("too thin at n", x.coin(0, 24, 1), -1);
        Desk.due("no who", x.coin(4, 100, 0), -1);
        Desk.due("no who", x.coin(-1, 100, 0), -1);
        Desk.due("no mint", x.coin(0, 100, 2), -1);
        Desk.due("no mint", x.coin(0, 100, -1), -1);
        x.dies(1, 0);
        Desk.due("dead", x.coin(1, 100, 0), -1);
        x.close(0);
        Desk.due("closed", x.coin(0, 100, 0), -1);
        Desk.due("open", x.coin(0, 100, 1), 1);
        Desk.due("coins", x.count(7), 2);
        Desk.due("strokes", x.strokes(), 2);
        Desk.due("made", x.silver(0), 122);
    }

    private static void fortyCoins() {
        FaceCoins x = Desk.under(LAW);
        for (int c = 0; c < 40; c++) Desk.due("coin " + c, x.coin(c % 3, 50 + c, 0), c);
        Desk.due("coin 40", x.coin(0, 50, 0), -1);
        Desk.due("coins", x.count(7), 40);
        Desk.due("undo of the last", x.undo(), 5);
        Desk.due("coin 39 again", x.coin(0, 70, 1), 39);
        Desk.due("grains of it", x.of(39, 0), 65);
    }

    private static void ghosts() {
        FaceCoins x = Desk.under(LAW);
        x.coin(0, 100, 0);
        sell(x, 0, 2, 0, 0);
        Desk.due("grains", x.of(0, 0), 96);
        Desk.due("faces", x.of(0, 2), 2);
        Desk.due("under", x.face(0, 1, 0), 0);
        Desk.due("its depth", x.face(0, 1, 1), 5);
        Desk.due("its stroke", x.face(0, 1, 2), 0);
        Desk.due("third", x.face(0, 2, 0), -1);
        x.rob(0, 0);
        x.steal(0, 1);
        Desk.due("forged", x.forge(0, 0), 0);
        Desk.due("three", x.of(0, 2), 3);
        Desk.due("lowest", x.face(0, 2, 1), 1);
        Desk.due("middle", x.face(0, 1, 1), 5);
        Desk.due("top", x.face(0, 0, 0), 1);
        Desk.due("false", x.of(0, 4), 1);
        Desk.due("struck away", x.forge(0, 1), 0);
        Desk.due("one left", x.of(0, 2), 1);
        Desk.due("had", x.of(0, 3), 4);
        Desk.due("one more", x.forge(0, 0), 6);
    }

    private static void deepestGhosts() {
        FaceCoins x = Desk.under("who a;who b;mint m 1 1;mint n 1 8;thin 1;faces 9;");
        x.coin(0, 100, 0);
        for (int i = 0; i < 8; i++) sell(x, i % 2, 1 - i % 2, 0, 0);
        Desk.due("faces", x.of(0, 2), 9);
        for (int i = 0; i < 9; i++) {
            Desk.due("who " + i, x.face(0, i, 0), i % 2);
            Desk.due("depth " + i, x.face(0, i, 1), 9 - i);
            Desk.due("stroke " + i, x.face(0, i, 2), 8 - i);
        }
        Desk.due("no tenth", x.face(0, 9, 0), -1);
        Desk.due("bears none", x.bears(0, 0), 0);
        x.coin(0, 50, 1);
        sell(x, 0, 1, 1, 1);
        Desk.due("just left", x.face(1, 1, 1), 1);
        sell(x, 1, 0, 1, 0);
        Desk.due("two left", x.of(1, 2), 2);
        Desk.due("the later one", x.face(1, 1, 0), 1);
        Desk.due("its depth", x.face(1, 1, 1), 8);
    }

    private static void people() {
        FaceCoins x = Desk.under(LAW);
        x.coin(0, 100, 0);
        x.coin(0, 60, 0);
        x.coin(1, 50, 0);
        x.rob(0, 2);
        Desk.due("coins", x.who(0, 3), 3);
        Desk.due("grains", x.who(0, 4), 98 + 58 + 48);
        Desk.due("on top", x.who(0, 5), 2);
        Desk.due("none", x.who(1, 3), 0);
        Desk.due("no grains", x.who(1, 4), 0);
        Desk.due("his face", x.who(1, 5), 1);
        Desk.due("lives", x.who(1, 2), 0);
        x.dies(1, 0);
        Desk.due("dead", x.who(1, 2), 1);
        Desk.due("face stays", x.who(1, 5), 1);
    }

    private static void mints() {
        FaceCoins x = Desk.under(LAW);
        x.coin(0, 100, 0);
        x.coin(0, 100, 1);
        x.coin(0, 100, 1);
        Desk.due("strokes at m", x.mint(0, 3), 1);
        Desk.due("strokes at n", x.mint(1, 3), 2);
        Desk.due("open", x.mint(1, 2), 0);
        x.close(1);
        Desk.due("closed", x.mint(1, 2), 1);
        Desk.due("m open", x.mint(0, 2), 0);
    }

    private static void hundredths() {
        FaceCoins x = Desk.under(LAW);
        x.coin(0, 100, 0);
        x.coin(1, 60, 1);
        x.coin(2, 50, 0);
        Desk.due("own", x.value(0, 0, 0), 100);
        Desk.due("own value", x.value(0, 0, 1), 98);
        Desk.due("takes 0", x.value(1, 0, 0), 0);
        Desk.due("takes 0 value", x.value(1, 0, 1), 0);
        Desk.due("without", x.value(2, 0, 0), 100);
        Desk.due("begs", x.value(0, 1, 0), 79);
        Desk.due("cut", x.value(0, 1, 1), 43);
        Desk.due("begs, without", x.value(2, 1, 0), 129);
        Desk.due("owes", x.value(0, 2, 0), 0);
        Desk.due("owes, own", x.value(2, 2, 0), 100);
        Desk.due("own, begs", x.value(1, 1, 0), 100);
        x.dies(1, 0);
        Desk.due("dead who begs", x.value(2, 1, 0), 69);
        Desk.due("dead, takes is nothing", x.value(0, 1, 0), 69);
        Desk.due("his own, dead", x.value(1, 1, 0), 100);
        x.dies(2, 0);
        Desk.due("dead who owes", x.value(0, 2, 0), 0);
        Desk.due("no who", x.value(4, 0, 0), -1);
        Desk.due("no who", x.value(-1, 0, 0), -1);
        Desk.due("no coin", x.value(0, 3, 0), -1);
        Desk.due("no coin", x.value(0, -1, 0), -1);
        Desk.due("no what", x.value(0, 0, 2), -1);
        Desk.due("no what", x.value(0, 0, -1), -1);
    }

    private static void luck() {
        FaceCoins x = Desk.under("who a;who b begs;mint m 1 1;lucky 2;thin 1;");
        Desk.due("luck", x.luck(), 2);
        x.coin(0, 50, 0);
        Desk.due("of no beggar", x.luck(), 2);
        x.coin(1, 50, 0);
        Desk.due("of one", x.luck(), 1);
        x.coin(1, 50, 0);
        x.coin(1, 50, 0);
        Desk.due("of three", x.luck(), 0);
        Desk.due("at", x.value(0, 1, 0), 100);
        Desk.coins(x, 1, 2);
        Desk.due("sale", x.sale(1, 0, 0, 50), 0);
        Desk.due("covered", x.luck(), 1);
        x.rob(1, 0);
        Desk.due("robbed", x.luck(), 1);
        Desk.due("at", x.value(0, 3, 0), 101);
    }

    private static void bearing() {
        FaceCoins x = Desk.under(LAW);
        x.coin(0, 100, 0);
        Desk.due("by faces", x.bears(0, 0), 3);
        Desk.due("by faces at n", x.bears(0, 1), 3);
        x.coin(0, 31, 0);
        Desk.due("29 by 2", x.bears(1, 0), 3);
        Desk.due("29 by 5", x.bears(1, 1), 1);
        x.coin(0, 25, 0);
        Desk.due("23 by 2", x.bears(2, 0), 1);
        Desk.due("23 by 5", x.bears(2, 1), 0);
        x.close(0);
        Desk.due("closed", x.bears(0, 0), 0);
        Desk.due("open", x.bears(0, 1), 3);
        Desk.due("no coin", x.bears(3, 0), -1);
        Desk.due("no coin", x.bears(-1, 0), -1);
        Desk.due("no mint", x.bears(0, 2), -1);
        Desk.due("no mint", x.bears(0, -1), -1);
    }

    private static void sell(FaceCoins x, int buyer, int seller, int c, int m) {
        Desk.coins(x, c);
        Desk.due("sale", x.sale(buyer, seller, m, 1), 0);
    }
}
