/** Promises 14 to 19: SALES and what is WRONG with them, PAYMENTS, what is done with which COIN. */
public final class SalesTest {
    private static final String LAW =
        "who a;who b begs;who c owes;mint m 2 4;mint n 5 9;takes a b 50;lucky 30;thin 20;faces 4;";

    public static void main(String[] args) {
        done();
        wrong();
        leastWrong();
        notAsTold();
        noPayments();
        leastGrains();
        restruck();
        restruckMustBear();
        fewestGiven();
        firstOfLike();
        leftThenGivenThenStruck();
        givenAheadOfLeavingTheNextOne();
        firstTwelve();
        buying();
        buyingByValuesAsReckoned();
        strikingAtTheFirstMint();
        allForty();
        paidStays();
        Desk.close();
    }

    private static int sale(FaceCoins x, int buyer, int seller, int m, int price, int... coins) {
        Desk.coins(x, coins);
        int answer = x.sale(buyer, seller, m, price);
        Desk.due("tape behind a sale", x.count(11), 0);
        return answer;
    }

    private static void done() {
        FaceCoins x = Desk.under(LAW);
        x.coin(1, 60, 1);
        x.coin(1, 70, 0);
        x.coin(0, 90, 0);
        x.day();
        // LUCK is 28: a takes b's face at 78; 55 gives 42, 68 gives 53.
        Desk.due("too dear", sale(x, 1, 0, 0, 96, 1, 0), 7);
        Desk.due("no sale", x.sales(), 0);
        Desk.due("just enough", sale(x, 1, 0, 0, 95, 1, 0), 0);
        Desk.due("sales", x.sales(), 1);
        int[] told = {1, 0, 0, 95, 1, 2, 95};
        for (int i = 0; i < told.length; i++) Desk.due("sold " + i, x.sold(0, i), told[i]);
        Desk.none("sold(1, 0)", () -> x.sold(1, 0));
        Desk.none("sold(-1, 0)", () -> x.sold(-1, 0));
        Desk.none("sold(0, 7)", () -> x.sold(0, 7));
        Desk.none("sold(0, -1)", () -> x.sold(0, -1));
        Desk.due("owner 0", x.of(0, 1), 0);
        Desk.due("owner 1", x.of(1, 1), 0);
        Desk.due("grains 0", x.of(0, 0), 53);
        Desk.due("grains 1", x.of(1, 0), 66);
        Desk.due("top", x.face(0, 0, 0), 0);
        // Struck as the tape tells them.
        Desk.due("stroke 3", x.stroke(3, 0), 1);
        Desk.due("stroke 4", x.stroke(4, 0), 0);
        Desk.due("by the sale", x.stroke(4, 4), 0);
        Desk.due("luck", x.luck(), 30);
        Desk.due("second", sale(x, 0, 1, 1, 10, 2), 0);
        Desk.due("sales", x.sales(), 2);
        Desk.due("mint of it", x.sold(1, 2), 1);
    }

    private static void wrong() {
        FaceCoins x = Desk.under(LAW);
        x.coin(0, 100, 0);
        x.coin(2, 100, 0);
        x.coin(0, 22, 0);
        Desk.due("one and the same", sale(x, 0, 0, 0, 1, 0), 1);
        Desk.due("not his", sale(x, 0, 1, 0, 1, 0, 1), 2);
        Desk.due("owes", sale(x, 2, 0, 0, 1, 1), 3);
        Desk.due("too thin", sale(x, 0, 1, 0, 1, 0, 2), 5);
        Desk.due("price", sale(x, 0, 1, 0, 99, 0), 7);
        for (int i = 0; i < 3; i++) Desk.due("to and fro", sale(x, i % 2, 1 - i % 2, 0, 1, 0), 0);
        Desk.due("had four", x.of(0, 3), 4);
        Desk.due("faces", sale(x, 1, 0, 0, 1, 0), 6);
        x.close(0);
        Desk.due("closed", sale(x, 1, 0, 0, 1, 0), 4);
        x.dies(2, 0);
        Desk.due("dead seller", sale(x, 1, 2, 1, 1, 0), 1);
        Desk.due("dead buyer", sale(x, 2, 1, 1, 1, 0), 1);
        Desk.due("sales", x.sales(), 3);
    }

    private static void leastWrong() {
        FaceCoins x = Desk.under("who a;who b;who c owes;mint m 2 1;mint n 9 1;thin 50;faces 2;takes b a 1;");
        x.coin(0, 100, 0);
        x.coin(0, 110, 0);
        x.coin(2, 120, 0);
        x.coin(0, 58, 0);
        x.coin(0, 200, 0);
        x.rob(0, 2);
        x.rob(2, 4);
        Desk.due("98 by 1 hundredth is 0", sale(x, 0, 1, 0, 1, 0), 3);
        Desk.due("108 by 1 hundredth is 1", sale(x, 0, 1, 0, 2, 1), 7);
        Desk.due("3 ahead of 5", sale(x, 0, 1, 1, 1, 3, 2), 3);
        Desk.due("2 ahead of 3", sale(x, 0, 1, 0, 1, 0, 4), 2);
        Desk.due("1 ahead of 2", sale(x, 0, 0, 0, 1, 4), 1);
        Desk.due("5", sale(x, 0, 2, 1, 1, 1, 3), 5);
        // COIN 1 comes back with two STROKES: 6; COIN 3 is too thin at n: 5 is the least.
        Desk.due("sale", sale(x, 0, 2, 0, 1, 1), 0);
        x.rob(0, 1);
        Desk.due("6", sale(x, 0, 2, 0, 1, 1), 6);
        Desk.due("5 ahead of 6", sale(x, 0, 2, 1, 1, 1, 3), 5);
        Desk.due("6 ahead of 7", sale(x, 0, 2, 0, 9999, 1), 6);
        x.close(1);
        Desk.due("4 ahead of 5", sale(x, 0, 2, 1, 1, 1, 3), 4);
    }

    private static void notAsTold() {
        FaceCoins x = Desk.under(LAW);
        x.coin(0, 9999, 0);
        x.coin(0, 100, 0);
        Desk.due("no coins", sale(x, 0, 1, 0, 1), -1);
        Desk.due("twice", sale(x, 0, 1, 0, 1, 0, 1, 0), -1);
        Desk.due("no such coin", sale(x, 0, 1, 0, 1, 0, 2), -1);
        Desk.due("byte 255", sale(x, 0, 1, 0, 1, 255), -1);
        Desk.due("no buyer", sale(x, 3, 1, 0, 1, 0), -1);
        Desk.due("no buyer", sale(x, -1, 1, 0, 1, 0), -1);
        Desk.due("no seller", sale(x, 0, 3, 0, 1, 0), -1);
        Desk.due("no mint", sale(x, 0, 1, 2, 1, 0), -1);
        Desk.due("no mint", sale(x, 0, 1, -1, 1, 0), -1);
        Desk.due("price 0", sale(x, 0, 1, 0, 0, 0), -1);
        Desk.due("price 10000", sale(x, 0, 1, 0, 10000, 0), -1);
        Desk.due("price 9999", sale(x, 0, 1, 0, 9999, 0), 7);
        Desk.due("price 9999 of both", sale(x, 0, 1, 0, 9999, 0, 1), 0);
    }

    private static void noPayments() {
        FaceCoins x = Desk.under(LAW);
        Desk.due("paid ahead of any", x.paid(0), -1);
        Desk.due("no coins", x.payment(0, 1, 0, 5), -1);
        Desk.due("no buyer", x.payment(3, 1, 0, 5), -2);
        Desk.due("no seller", x.payment(0, -1, 0, 5), -2);
        Desk.due("no mint", x.payment(0, 1, 2, 5), -2);
        Desk.due("same", x.payment(1, 1, 0, 5), -2);
        Desk.due("price 0", x.payment(0, 1, 0, 0), -2);
        Desk.due("price 2001", x.payment(0, 1, 0, 2001), -2);
        Desk.due("price 2000", x.payment(0, 1, 0, 2000), -1);
        Desk.due("buy price 2001", x.buy(0, 1, 0, 2001), -2);
        Desk.due("buy price 2000", x.buy(0, 1, 0, 2000), -1);
        x.coin(0, 100, 0);
        x.close(0);
        Desk.due("closed", x.payment(0, 1, 0, 5), -1);
        Desk.due("open", x.payment(0, 1, 1, 5), 98);
        x.dies(1, 0);
        Desk.due("dead", x.payment(0, 1, 1, 5), -2);
        Desk.due("dead buys", x.buy(1, 0, 1, 5), -2);
    }

    private static void leastGrains() {
        FaceCoins x = Desk.under("who a;who b;mint m 1 1;thin 10;");
        int[] made = {81, 41, 61, 26, 201};
        for (int grains : made) x.coin(0, grains, 0);
        Desk.due("25", x.payment(0, 1, 0, 20), 25);
        Desk.due("40", x.payment(0, 1, 0, 26), 40);
        Desk.due("65", x.payment(0, 1, 0, 61), 65);
        int[] done = {0, 1, 0, 1, 0};
        for (int c = 0; c < 5; c++) Desk.due("paid " + c, x.paid(c), done[c]);
        Desk.due("all", x.payment(0, 1, 0, 405), 405);
        Desk.due("more than all", x.payment(0, 1, 0, 406), -1);
        for (int c = 0; c < 5; c++) Desk.due("paid then " + c, x.paid(c), 1);
        Desk.due("paid 5", x.paid(5), -1);
        Desk.due("paid -1", x.paid(-1), -1);
        Desk.due("paid 40", x.paid(40), -1);
        Desk.due("nothing is done", x.strokes(), 5);
    }

    private static void restruck() {
        FaceCoins x = Desk.under("who a;who b;who c owes;mint m 9 1;mint n 4 1;mint o 4 1;thin 10;takes b c 30;");
        x.coin(2, 110, 1);
        x.rob(0, 0);
        // It has c's face, which b takes at nothing; restruck it is a's, at 100.
        Desk.due("97 left at m", x.payment(0, 1, 0, 97), 106);
        Desk.due("at m", x.paid(0), 2);
        Desk.due("102 left at n", x.payment(0, 1, 0, 98), 106);
        Desk.due("at n, ahead of o", x.paid(0), 3);
        Desk.due("103", x.payment(0, 1, 0, 103), -1);
        x.close(1);
        Desk.due("n is closed", x.payment(0, 1, 0, 98), 106);
        Desk.due("at o", x.paid(0), 4);
        x.close(2);
        Desk.due("o is closed", x.payment(0, 1, 0, 98), -1);
        x.close(0);
        Desk.due("m is closed", x.payment(0, 1, 0, 97), -1);
    }

    private static void restruckMustBear() {
        FaceCoins x = Desk.under("who a;who b;who c owes;mint m 5 1;mint n 3 1;thin 50;faces 2;");
        x.coin(2, 100, 0);
        x.rob(0, 0);
        Desk.due("two strokes more, one is left", x.payment(0, 1, 0, 1), -1);
        FaceCoins y = Desk.under("who a;who b;who c owes;mint m 5 1;mint n 3 1;thin 50;faces 3;");
        y.coin(2, 63, 0);
        y.rob(0, 0);
        Desk.due("58: 5 and 5 are too many at m", y.payment(0, 1, 0, 1), 58);
        Desk.due("3 and 5", y.paid(0), 3);
        y.coin(2, 62, 0);
        y.rob(1, 0);
        y.rob(0, 1);
        Desk.due("57: 3 and 5 too", y.payment(0, 1, 0, 1), -1);
        Desk.due("57: 3 and 3", y.payment(0, 1, 1, 1), 57);
        Desk.due("then", y.paid(1), 3);
    }

    private static void fewestGiven() {
        FaceCoins x = Desk.under("who a;who b;mint m 1 1;thin 10;");
        int[] made = {31, 31, 61, 101};
        for (int grains : made) x.coin(0, grains, 0);
        Desk.due("60", x.payment(0, 1, 0, 55), 60);
        int[] done = {0, 0, 1, 0};
        for (int c = 0; c < 4; c++) Desk.due("paid " + c, x.paid(c), done[c]);
    }

    private static void firstOfLike() {
        FaceCoins x = Desk.under("who a;who b;mint m 1 1;thin 10;");
        for (int i = 0; i < 4; i++) x.coin(0, 51, 0);
        Desk.due("100", x.payment(0, 1, 0, 70), 100);
        int[] done = {0, 0, 1, 1};
        for (int c = 0; c < 4; c++) Desk.due("left ahead of given " + c, x.paid(c), done[c]);
    }

    private static void leftThenGivenThenStruck() {
        // All three weigh 100. COIN 0 is worth 60, struck at m 90; COIN 1 100; COIN 2 60, struck 90.
        FaceCoins x = Desk.under("who a;who b;who c;mint m 10 1;takes b c 60;thin 10;");
        x.coin(2, 110, 0);
        x.coin(0, 110, 0);
        x.coin(2, 110, 0);
        x.rob(0, 0);
        x.rob(0, 2);
        Desk.due("150", x.payment(0, 1, 0, 150), 200);
        int[] done = {0, 1, 1};
        for (int c = 0; c < 3; c++) Desk.due("150 paid " + c, x.paid(c), done[c]);
        Desk.due("190", x.payment(0, 1, 0, 190), 200);
        int[] struck = {0, 1, 2};
        for (int c = 0; c < 3; c++) Desk.due("190 paid " + c, x.paid(c), struck[c]);
        x.rob(1, 1);
        Desk.due("150 of two", x.payment(0, 1, 0, 150), 200);
        Desk.due("given first", x.paid(0), 1);
        Desk.due("then struck", x.paid(2), 2);
        Desk.due("not looked at", x.paid(1), -1);
    }

    private static void givenAheadOfLeavingTheNextOne() {
        // All weigh 100. COIN 0 is worth 60, struck 90; COINS 1 and 2 bear one STROKE more: they are worth 85 and 55.
        // 145 is made by COINS 0 and 1, or by COIN 0 struck and COIN 2: to give COIN 0 comes ahead of striking it.
        FaceCoins x = Desk.under(
            "who a;who b;who c;who d;who e;mint m 10 1;takes b c 60;takes b d 85;takes b e 55;thin 10;faces 3;");
        x.coin(2, 110, 0);
        x.coin(2, 120, 0);
        x.coin(2, 120, 0);
        Desk.due("to d", sale(x, 2, 3, 0, 1, 1), 0);
        Desk.due("to e", sale(x, 2, 4, 0, 1, 2), 0);
        for (int c = 0; c < 3; c++) x.rob(0, c);
        Desk.due("145", x.payment(0, 1, 0, 145), 200);
        int[] done = {1, 1, 0};
        for (int c = 0; c < 3; c++) Desk.due("145 paid " + c, x.paid(c), done[c]);
        x.rob(1, 1);
        Desk.due("145 without COIN 1", x.payment(0, 1, 0, 145), 200);
        Desk.due("struck", x.paid(0), 2);
        Desk.due("given", x.paid(2), 1);
    }

    private static void firstTwelve() {
        FaceCoins x = Desk.under("who a;who b;mint m 1 1;thin 10;");
        x.coin(1, 500, 0);
        for (int i = 0; i < 13; i++) x.coin(0, 51, 0);
        Desk.due("600", x.payment(0, 1, 0, 600), 600);
        Desk.due("the other one's", x.paid(0), -1);
        Desk.due("first", x.paid(1), 1);
        Desk.due("twelfth", x.paid(12), 1);
        Desk.due("thirteenth", x.paid(13), -1);
        Desk.due("601", x.payment(0, 1, 0, 601), -1);
        Desk.due("1", x.payment(0, 1, 0, 1), 50);
        Desk.due("the twelfth alone", x.paid(12), 1);
        Desk.due("left", x.paid(11), 0);
    }

    private static void buying() {
        FaceCoins x = Desk.under("who a;who b;who c owes;mint m 9 4;mint n 4 4;thin 10;");
        x.coin(2, 104, 1);
        x.coin(0, 64, 1);
        x.coin(2, 54, 1);
        x.rob(0, 0);
        x.rob(0, 2);
        x.day();
        Desk.due("buy", x.buy(0, 1, 0, 200), 210);
        // a's strokes first, COIN by COIN, then those of the sale.
        int[][] told = {{0, 0, 1, 1, -1, 0}, {2, 0, 1, 1, -1, 0}, {0, 1, 0, 1, 0, 0}, {1, 1, 0, 1, 0, 0}, {2, 1, 0, 1, 0, 0}};
        for (int k = 0; k < told.length; k++) {
            for (int i = 0; i < 6; i++) Desk.due("stroke " + (3 + k) + " " + i, x.stroke(3 + k, i), told[k][i]);
        }
        Desk.due("strokes", x.strokes(), 8);
        int[] sold = {0, 1, 0, 200, 1, 3, 96 + 60 + 46};
        for (int i = 0; i < sold.length; i++) Desk.due("sold " + i, x.sold(0, i), sold[i]);
        Desk.due("all his", x.who(1, 3), 3);
        Desk.due("grains", x.of(0, 0), 87);
        Desk.due("paid 0", x.paid(0), 3);
        Desk.due("paid 1", x.paid(1), 1);
        Desk.due("paid 2", x.paid(2), 3);
        Desk.due("undo", x.undo(), 5);
        Desk.due("strokes", x.strokes(), 3);
        Desk.due("sales", x.sales(), 0);
        Desk.due("grains back", x.of(0, 0), 100);
        Desk.due("face back", x.face(0, 0, 0), 2);
        Desk.due("paid stays", x.paid(0), 3);
    }

    private static void buyingByValuesAsReckoned() {
        // a begs: each COIN that he strikes makes LUCK less, but VALUES are by LUCK as it was.
        FaceCoins x = Desk.under("who a begs;who b;who c owes;mint m 1 1;thin 10;lucky 10;");
        x.coin(2, 101, 0);
        x.coin(2, 101, 0);
        x.rob(0, 0);
        x.rob(0, 1);
        Desk.due("luck", x.luck(), 10);
        Desk.due("99 at 110 is 108, twice", x.payment(0, 1, 0, 217), -1);
        Desk.due("216", x.buy(0, 1, 0, 216), 200);
        Desk.due("values", x.sold(0, 6), 216);
    }

    private static void strikingAtTheFirstMint() {
        FaceCoins x = Desk.under("who a;who b;who c owes;mint m 9 4;mint n 4 4;thin 10;");
        x.coin(2, 104, 1);
        x.rob(0, 0);
        Desk.due("buy", x.buy(0, 1, 1, 91), 100);
        Desk.due("at m", x.paid(0), 2);
        Desk.due("strokes", x.strokes(), 3);
        Desk.due("his", x.stroke(1, 1), 0);
        Desk.due("at m", x.stroke(1, 2), 0);
        Desk.due("values", x.sold(0, 6), 91);
        Desk.due("grains", x.of(0, 0), 87);
    }

    private static void allForty() {
        FaceCoins x = Desk.under("who a;who b;mint m 1 1;thin 10;");
        int[] all = new int[40];
        for (int c = 0; c < 40; c++) {
            x.coin(0, 51, 0);
            all[c] = 39 - c;
        }
        Desk.due("all at once", sale(x, 0, 1, 0, 2000, all), 0);
        Desk.due("how many", x.sold(0, 5), 40);
        Desk.due("the first stroke", x.stroke(40, 0), 39);
        Desk.due("all his", x.who(1, 3), 40);
        int[] more = java.util.Arrays.copyOf(all, 41);
        Desk.due("one of them twice", sale(x, 1, 0, 0, 1, more), -1);
    }

    private static void paidStays() {
        FaceCoins x = Desk.under("who a;who b;mint m 1 1;thin 10;");
        x.coin(0, 51, 0);
        x.coin(1, 51, 0);
        Desk.due("payment", x.payment(0, 1, 0, 10), 50);
        Desk.due("none", x.payment(0, 1, 0, 60), -1);
        Desk.due("not as told", x.payment(0, 0, 0, 60), -2);
        Desk.due("no buy", x.buy(1, 0, 0, 60), -1);
        Desk.due("stays", x.paid(0), 1);
        Desk.due("market", x.market(50, 3) > 0 ? 1 : 0, 1);
        Desk.due("stays 0", x.paid(0), 1);
        Desk.due("stays 1", x.paid(1), -1);
        Desk.text(x, "");
        Desk.due("law", x.law(), 0);
        Desk.due("stays by a new law", x.paid(0), 1);
    }
}
