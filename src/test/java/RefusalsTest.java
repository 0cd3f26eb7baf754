/**
 * Each call that is refused: what it answers, and that all that other calls show is then as it is without that call,
 * what can be undone and the images, too.
 */
public final class RefusalsTest {
    private static final int LEAST = Integer.MIN_VALUE;
    private static final int MOST = Integer.MAX_VALUE;
    private static final String LAW = "who a;who b begs;who c owes;who d;mint m 2 4;mint n 5 9;mint o 1 1;takes a b 50;"
        + "lucky 30;thin 20;faces 4;";
    private static final int FAULT_THERE = 3;

    private static String sight = "";
    private static String undone = "";

    public static void main(String[] args) {
        FaceCoins x = there();
        sight = Sight.of(x);
        undone = undone(x);
        FaceCoins y = there();
        Desk.yes("the objects are alike", Sight.of(y).equals(sight) && undone(y).equals(undone));
        tape();
        texts();
        thrown();
        coins();
        sales();
        payments();
        dies();
        otherActs();
        queries();
        rowsAndMarkets();
        images();
        notActs();
        Desk.close();
    }

    private interface Call {
        long on(FaceCoins x);
    }

    /**
     * WHO 3 is DEAD, MINT 2 closed, WHO 1 has the die of WHO 0. COIN 2 is too thin at n, COIN 4 had four STROKES, COIN 3
     * is of one who owes. More than six ACTS were done, an image is in place 0.
     */
    private static FaceCoins there() {
        FaceCoins x = Desk.under(LAW);
        x.coin(0, 100, 0);
        x.coin(1, 60, 1);
        x.coin(0, 26, 0);
        x.coin(2, 80, 0);
        x.coin(1, 70, 0);
        x.coin(0, 90, 0);
        x.image(0);
        Desk.due("dies", x.dies(3, 0), 0);
        Desk.yes("close", x.close(2));
        Desk.due("sale", Desk.sale(x, 0, 1, 0, 5, 5), 0);
        Desk.due("day", x.day(), 1);
        Desk.yes("steal", x.steal(1, 0));
        for (int i = 0; i < 3; i++) Desk.due("forge", x.forge(4, 0), 0);
        Desk.due("payment", x.payment(0, 1, 0, 20), 24);
        Desk.due("rows", x.rows(0, 100, 1), 1);
        Desk.text(x, "false or held c");
        Desk.due("sentence", x.sentence(), 2);
        Desk.sentenceFault(x, "held z", 5, FAULT_THERE);
        return x;
    }

    private static String undone(FaceCoins x) {
        StringBuilder b = new StringBuilder();
        for (int i = 0; i < 8; i++) b.append(x.undo()).append(": ").append(Sight.ofActs(x)).append('\n');
        b.append(x.restore(1)).append(x.restore(0)).append(Sight.ofActs(x)).append(x.said(-1));
        return b.toString();
    }

    private static void asItWas(String what, FaceCoins x, int bytes, int fault) {
        Desk.due("bytes behind " + what, x.count(11), bytes);
        Desk.due("fault() behind " + what, x.fault(), fault);
        Desk.yes("all is seen as it was, behind " + what, Sight.of(x).equals(sight));
        Desk.yes("all can be undone as it could, behind " + what, undone(x).equals(undone));
    }

    private static void refused(String what, long answer, Call call) {
        FaceCoins x = there();
        Desk.due(what, call.on(x), answer);
        asItWas(what, x, 0, FAULT_THERE);
    }

    private static long bit(boolean b) {
        return b ? 1 : 0;
    }

    private static void tape() {
        Desk.edge("NONE, and none come, if it would have more than 740");
        FaceCoins x = there();
        Desk.text(x, " ".repeat(721));
        Desk.due("feed", x.feed(-1, -1, -1, -1, -1), -1);
        Desk.due("bytes", x.count(11), 721);
        x.end(0);
        asItWas("feed", x, 0, FAULT_THERE);
        Desk.edge("false, if it has not so many, or n is below 0");
        for (int n : new int[] {-1, 1, LEAST, MOST}) refused("end(" + n + ")", 0, y -> bit(y.end(n)));
        for (int n : new int[] {-1, 3, LEAST, MOST}) {
            FaceCoins y = there();
            Desk.coins(y, 5, 0);
            Desk.no("end(" + n + ")", y.end(n));
            asItWas("end(" + n + ")", y, 2, FAULT_THERE);
            // The bytes are those that were there: COINS 5 and 0 are not of one WHO, and COIN 5 is the first.
            FaceCoins z = there();
            Desk.coins(z, 5);
            Desk.no("end(" + n + ")", z.end(n));
            Desk.due("a SALE of COIN 5", z.sale(1, 0, 0, 5), 0);
        }
    }

    private static void texts() {
        String[] laws = {"who", "lucky 101;", "who a;who a;", "who a;who b;who c;who d;who e;who f;who g;who h;who i;"};
        int[] places = {3, 6, 10, 48};
        for (int i = 0; i < laws.length; i++) {
            Desk.edge("-1 less the place of a FAULT: it stays. (a LAW of FAULT " + (i + 1) + ")");
            FaceCoins x = there();
            Desk.lawFault(x, laws[i], places[i], i + 1);
            asItWas(laws[i], x, 0, i + 1);
        }
        FaceCoins tooLong = there();
        Desk.lawFault(tooLong, " ".repeat(701), 700, 1);
        asItWas("701 bytes", tooLong, 0, 1);
        String[] sentences = {"or", "held ann", "not not not not not not not not false", ""};
        int[] at = {0, 5, 32, 0};
        int[] kinds = {1, 3, 4, 1};
        for (int i = 0; i < sentences.length; i++) {
            Desk.edge("-1 less the place of a FAULT: it stays. (a SENTENCE of FAULT " + kinds[i] + ")");
            FaceCoins x = there();
            Desk.sentenceFault(x, sentences[i], at[i], kinds[i]);
            asItWas("'" + sentences[i] + "'", x, 0, kinds[i]);
        }
    }

    private static void thrown(String what, Call call) {
        FaceCoins x = there();
        Desk.none(what, () -> call.on(x));
        asItWas(what, x, 0, FAULT_THERE);
    }

    private static void thrown() {
        Desk.edge("A call that throws changes nothing.");
        for (int k : new int[] {-1, 40, LEAST, MOST}) {
            thrown("who(" + k + ", 0)", x -> x.who(k, 0));
            thrown("who(0, " + k + ")", x -> x.who(0, k));
            thrown("mint(" + k + ", 0)", x -> x.mint(k, 0));
            thrown("mint(0, " + k + ")", x -> x.mint(0, k));
            thrown("of(" + k + ", 0)", x -> x.of(k, 0));
            thrown("of(0, " + k + ")", x -> x.of(0, k));
            thrown("sold(" + k + ", 0)", x -> x.sold(k, 0));
            thrown("sold(0, " + k + ")", x -> x.sold(0, k));
            thrown("stroke(" + k + ", 0)", x -> x.stroke(k, 0));
            thrown("stroke(0, " + k + ")", x -> x.stroke(0, k));
        }
        thrown("who(4, 0)", x -> x.who(4, 0));
        thrown("mint(3, 0)", x -> x.mint(3, 0));
        thrown("of(6, 0)", x -> x.of(6, 0));
        thrown("sold(1, 0)", x -> x.sold(1, 0));
        thrown("stroke(10, 0)", x -> x.stroke(10, 0));
        thrown("who(4, 9)", x -> x.who(4, 9));
    }

    private static void coins() {
        Desk.edge("coin: NONE: not as told, a STROKE that can't be, too many.");
        for (int w : new int[] {-1, 4, 3, LEAST, MOST}) refused("coin of WHO " + w, -1, x -> x.coin(w, 100, 0));
        for (int grains : new int[] {0, -1, 10000, LEAST, MOST, 21}) refused("coin of " + grains, -1, x -> x.coin(0, grains, 0));
        for (int m : new int[] {-1, 3, 2, LEAST, MOST}) refused("coin at MINT " + m, -1, x -> x.coin(0, 100, m));
        FaceCoins x = Desk.under("who a;mint m 1 1;");
        for (int c = 0; c < 40; c++) x.coin(0, 100, 0);
        Desk.due("a 41st", x.coin(0, 100, 0), -1);
        Desk.due("COINS", x.count(7), 40);
        Desk.due("STROKES", x.strokes(), 40);
        Desk.due("made", x.silver(0), 4000);
        Desk.due("what can be undone", x.undo(), 5);
        Desk.due("is the 40th", x.count(7), 39);
    }

    /** A refused SALE has emptied the tape, and that alone. */
    private static void saleRefused(int answer, int buyer, int seller, int m, int price, int... coins) {
        String what = "sale(" + buyer + ", " + seller + ", " + m + ", " + price + ") of " + java.util.Arrays.toString(coins);
        refused(what, answer, x -> Desk.sale(x, buyer, seller, m, price, coins));
    }

    private static void sales() {
        Desk.edge("NONE: no such ones, no COINS or one twice, PRICE not 1 to 9999");
        for (int k : new int[] {-1, 4, LEAST, MOST}) {
            saleRefused(-1, k, 1, 0, 5, 0);
            saleRefused(-1, 0, k, 0, 5, 0);
            saleRefused(-1, 0, 1, k, 5, 0);
        }
        saleRefused(-1, 0, 1, 3, 5, 0);
        saleRefused(-1, 0, 1, 0, 5);
        saleRefused(-1, 0, 1, 0, 5, 0, 0);
        saleRefused(-1, 0, 1, 0, 5, 6);
        saleRefused(-1, 0, 1, 0, 5, 0, 255);
        for (int price : new int[] {0, -1, 10000, LEAST, MOST}) saleRefused(-1, 0, 1, 0, price, 0);
        Desk.edge("WRONG 1 to 7");
        saleRefused(1, 0, 0, 0, 5, 0);
        saleRefused(1, 0, 3, 0, 5, 0);
        saleRefused(1, 3, 0, 0, 5, 0);
        saleRefused(2, 0, 1, 0, 5, 0, 1);
        saleRefused(3, 2, 0, 0, 5, 3);
        saleRefused(4, 0, 1, 2, 5, 0);
        saleRefused(5, 0, 1, 1, 5, 0, 2);
        saleRefused(6, 1, 0, 0, 5, 4, 1);
        saleRefused(7, 0, 1, 0, 9999, 0, 2);
        Desk.edge("the tape (empty then)");
        FaceCoins x = there();
        Desk.coins(x, 1, 2, 3);
        Desk.due("refused", x.sale(9, 9, 9, 0), -1);
        asItWas("a refused SALE", x, 0, FAULT_THERE);
    }

    private static void paymentRefused(int answer, int buyer, int seller, int m, int price) {
        String told = "(" + buyer + ", " + seller + ", " + m + ", " + price + ")";
        refused("payment" + told, answer, x -> x.payment(buyer, seller, m, price));
        refused("buy" + told, answer, x -> x.buy(buyer, seller, m, price));
    }

    private static void payments() {
        Desk.edge("-2: not as told (WRONG 1, too).");
        for (int k : new int[] {-1, 4, LEAST, MOST}) {
            paymentRefused(-2, k, 1, 0, 5);
            paymentRefused(-2, 0, k, 0, 5);
            paymentRefused(-2, 0, 1, k, 5);
        }
        paymentRefused(-2, 0, 1, 3, 5);
        for (int price : new int[] {0, -1, 2001, LEAST, MOST}) paymentRefused(-2, 0, 1, 0, price);
        paymentRefused(-2, 0, 0, 0, 5);
        paymentRefused(-2, 0, 3, 0, 5);
        paymentRefused(-2, 3, 0, 0, 5);
        Desk.edge("NONE: there is none");
        paymentRefused(-1, 0, 1, 0, 2000);
        paymentRefused(-1, 0, 1, 2, 5);
    }

    private static void dies() {
        Desk.edge("The die of a victim is stolen: true; false: not as told.");
        for (int k : new int[] {-1, 4, LEAST, MOST}) {
            refused("thief " + k, 0, x -> bit(x.steal(k, 0)));
            refused("victim " + k, 0, x -> bit(x.steal(0, k)));
        }
        refused("one at a time", 0, x -> bit(x.steal(0, 2)));
        refused("the same", 0, x -> bit(x.steal(1, 0)));
        FaceCoins x = there();
        x.day();
        FaceCoins y = there();
        y.day();
        for (int w = 0; w < 4; w++) {
            Desk.no("of himself", x.steal(w, w));
            Desk.no("DEAD", x.steal(3, w));
            Desk.no("of one who is DEAD", x.steal(w, 3));
        }
        Desk.due("no die is stolen", x.forge(1, 0), 1);
        Desk.yes("as it was", Sight.of(x).equals(Sight.of(y)) && undone(x).equals(undone(y)));
        Desk.edge("2 it is not the thief's; 4, 5, 6: the STROKE can't be; NONE: no such ones");
        for (int k : new int[] {-1, 6, LEAST, MOST}) refused("COIN " + k, -1, z -> z.forge(k, 0));
        for (int k : new int[] {-1, 3, LEAST, MOST}) refused("MINT " + k, -1, z -> z.forge(1, k));
        refused("not his", 2, z -> z.forge(0, 0));
        refused("closed", 4, z -> z.forge(1, 2));
        refused("had as many", 6, z -> z.forge(4, 0));
        thinForgery();
    }

    private static void thinForgery() {
        FaceCoins x = Desk.under(LAW);
        x.coin(1, 26, 0);
        x.steal(1, 0);
        Desk.due("too thin", x.forge(0, 1), 5);
        Desk.due("STROKES", x.strokes(), 1);
        Desk.due("GRAINS", x.of(0, 0), 24);
        Desk.due("what can be undone", x.undo(), 1);
        Desk.due("is the theft", x.count(9), -1);
    }

    private static void otherActs() {
        Desk.edge("rob: false: no such ones, his own, he is DEAD.");
        for (int k : new int[] {-1, 4, 3, LEAST, MOST}) refused("robber " + k, 0, x -> bit(x.rob(k, 0)));
        for (int k : new int[] {-1, 6, LEAST, MOST}) refused("COIN " + k, 0, x -> bit(x.rob(1, k)));
        refused("his own", 0, x -> bit(x.rob(0, 0)));
        Desk.edge("dies: NONE: not as told.");
        for (int k : new int[] {-1, 4, LEAST, MOST}) {
            refused("WHO " + k, -1, x -> x.dies(k, 0));
            refused("heir " + k, -1, x -> x.dies(0, k));
        }
        refused("his own heir", -1, x -> x.dies(0, 0));
        refused("DEAD heir", -1, x -> x.dies(0, 3));
        refused("DEAD already", -1, x -> x.dies(3, 0));
        refused("DEAD, his own heir", -1, x -> x.dies(3, 3));
        Desk.edge("close: false: no such one, it is already.");
        for (int k : new int[] {-1, 3, 2, LEAST, MOST}) refused("MINT " + k, 0, x -> bit(x.close(k)));
        Desk.edge("undo: NONE: none is.");
        FaceCoins x = there();
        while (x.undo() >= 0) Desk.yes("not for ever", x.strokes() >= 0);
        String before = Sight.of(x);
        Desk.due("none is", x.undo(), -1);
        Desk.yes("as it was", Sight.of(x).equals(before));
    }

    private static void queries() {
        Desk.edge("NONE: no such ones. (face, value, bears, foreign, silver, paid, could, said, count)");
        for (int k : new int[] {-2, 40, LEAST, MOST}) {
            refused("face of COIN " + k, -1, x -> x.face(k, 0, 0));
            refused("face " + k, -1, x -> x.face(0, k, 0));
            refused("face, what " + k, -1, x -> x.face(0, 0, k));
            refused("value for " + k, -1, x -> x.value(k, 0, 0));
            refused("value of " + k, -1, x -> x.value(0, k, 0));
            refused("value, what " + k, -1, x -> x.value(0, 0, k));
            refused("bears of " + k, -1, x -> x.bears(k, 0));
            refused("bears at " + k, -1, x -> x.bears(0, k));
            refused("foreign " + k, -1, x -> x.foreign(k));
            refused("silver " + k, -1, x -> x.silver(k));
            refused("paid " + k, -1, x -> x.paid(k));
            refused("could " + k, -1, x -> x.could(k, 0));
            refused("could, what " + k, -1, x -> x.could(0, k));
            refused("said " + k, -1, x -> x.said(k));
            refused("count " + k, -1, x -> x.count(k));
        }
    }

    private static void rowsAndMarkets() {
        Desk.edge("rows: NONE: no such ones; -2: too many.");
        for (int k : new int[] {-1, 6, LEAST, MOST}) refused("rows of COIN " + k, -1, x -> x.rows(k, 100, 1));
        for (int k : new int[] {0, -1, 10000, LEAST, MOST}) refused("rows from " + k, -1, x -> x.rows(0, k, 1));
        for (int k : new int[] {0, -1, 10, LEAST, MOST}) refused("rows of " + k, -1, x -> x.rows(0, 100, k));
        // 12 to the 4th are 20736, to the 5th 248832.
        refused("too many", -2, x -> x.rows(0, 100, 5));
        refused("far too many", -2, x -> x.rows(0, 100, 9));
        Desk.edge("market: NONE: not as told, no PEOPLE or MINTS.");
        for (int k : new int[] {0, -1, 51, LEAST, MOST}) refused("market of " + k, -1, x -> x.market(k, 7));
        FaceCoins x = Desk.under("who a;who b;");
        x.day();
        Desk.due("no MINTS", x.market(5, 7), -1);
        Desk.due("what can be undone", x.undo(), 0);
        Desk.due("is the DAY", x.count(8), 0);
    }

    private static void images() {
        Desk.edge("image, restore: false: no such one, or nothing is kept there.");
        for (int k : new int[] {-1, 2, LEAST, MOST}) {
            refused("image(" + k + ")", 0, x -> bit(x.image(k)));
            refused("restore(" + k + ")", 0, x -> bit(x.restore(k)));
        }
        refused("restore(1)", 0, x -> bit(x.restore(1)));
    }

    /** What is as told, but no ACT, changes nothing but what it tells. */
    private static void notActs() {
        Desk.edge("payment(), rows() tell, and do nothing");
        refused("the same payment()", 24, x -> x.payment(0, 1, 0, 20));
        refused("the same rows()", 1, x -> x.rows(0, 100, 1));
        FaceCoins x = there();
        Desk.due("another payment()", x.payment(0, 1, 0, 30), 98);
        Desk.due("the first", x.payment(0, 1, 0, 20), 24);
        Desk.due("another rows()", x.rows(1, 65, 2), 4);
        Desk.due("the first", x.rows(0, 100, 1), 1);
        asItWas("payment(), rows()", x, 0, FAULT_THERE);
    }
}
