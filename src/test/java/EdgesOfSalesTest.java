/** Each sentence on SALES and PAYMENTS that names a boundary (promises 14 to 19). */
public final class EdgesOfSalesTest {
    private static final int LEAST = Integer.MIN_VALUE;
    private static final int MOST = Integer.MAX_VALUE;

    public static void main(String[] args) {
        priceOfSales();
        coinsOfSales();
        noSuchOnes();
        noneAheadOfWrong();
        deadOrOne();
        notTheBuyers();
        valueNone();
        strokesThatCantBe();
        belowPrice();
        eachWrongIsTheLeast();
        struckAndSellers();
        salesDone();
        soldOnes();
        priceOfPayments();
        notAsTold();
        thereIsNone();
        pricedOrMore();
        firstTwelve();
        eachAboveNone();
        thinAndGiven();
        facesAndGiven();
        thinAndStruck();
        facesAndStruck();
        closedAndStruck();
        leastGrains();
        grainsAhead();
        fewestGiven();
        firstOnes();
        luckAsItIsNow();
        paidOnes();
        paidOfTheLatest();
        buying();
        buyingOfFewer();
        buyIsRefused();
        Desk.close();
    }

    private static void priceOfSales() {
        Desk.edge("PRICE not 1 to 9999");
        FaceCoins x = Desk.under("who a;who b;mint m 1 1;takes b a 200;");
        x.coin(0, 9999, 0);
        for (int price : new int[] {0, -1, 10000, LEAST, MOST}) Desk.due("" + price, Desk.sale(x, 0, 1, 0, price, 0), -1);
        Desk.due("9999", Desk.sale(x, 0, 1, 0, 9999, 0), 0);
        Desk.due("1", Desk.sale(x, 1, 0, 0, 1, 0), 0);
        Desk.due("the PRICE told", x.sold(0, 3), 9999);
        Desk.due("VALUES above 9999", x.sold(0, 6), 2 * 9998);
    }

    private static void coinsOfSales() {
        Desk.edge("no COINS or one twice");
        FaceCoins x = Desk.under("who a;who b;mint m 1 1;thin 1;");
        int[] all = new int[40];
        int[] more = new int[41];
        for (int c = 0; c < 40; c++) {
            x.coin(0, 9, 0);
            all[c] = c;
            more[c] = c;
        }
        Desk.due("no COINS", Desk.sale(x, 0, 1, 0, 1), -1);
        Desk.due("twice", Desk.sale(x, 0, 1, 0, 1, 7, 7), -1);
        Desk.due("first and last", Desk.sale(x, 0, 1, 0, 1, 0, 39, 0), -1);
        Desk.due("the last twice", Desk.sale(x, 0, 1, 0, 1, 39, 39), -1);
        more[40] = 39;
        Desk.due("41: one is twice", Desk.sale(x, 0, 1, 0, 1, more), -1);
        Desk.due("740 bytes", Desk.sale(x, 0, 1, 0, 1, new int[740]), -1);
        Desk.due("one", Desk.sale(x, 0, 1, 0, 1, 39), 0);
        x.undo();
        Desk.due("all", Desk.sale(x, 0, 1, 0, 320, all), 0);
        Desk.due("40", x.sold(0, 5), 40);
        Desk.due("320", x.sold(0, 6), 320);
    }

    private static void noSuchOnes() {
        Desk.edge("sale: NONE: no such ones");
        FaceCoins x = Desk.under("who a;who b;mint m 1 1;");
        x.coin(0, 100, 0);
        for (int w : new int[] {-1, 2, LEAST, MOST}) {
            Desk.due("buyer " + w, Desk.sale(x, w, 1, 0, 1, 0), -1);
            Desk.due("seller " + w, Desk.sale(x, 0, w, 0, 1, 0), -1);
        }
        for (int m : new int[] {-1, 1, LEAST, MOST}) Desk.due("MINT " + m, Desk.sale(x, 0, 1, m, 1, 0), -1);
        for (int c : new int[] {1, 39, 40, 63, 64, 127, 128, 255}) Desk.due("COIN " + c, Desk.sale(x, 0, 1, 0, 1, 0, c), -1);
        Desk.due("as told", Desk.sale(x, 0, 1, 0, 1, 0), 0);
    }

    private static void noneAheadOfWrong() {
        Desk.edge("0 it is done; WRONG 1 to 7; NONE: no such ones (which can't be WRONG)");
        FaceCoins x = Desk.under("who a;who b;who c;mint m 1 1;");
        x.coin(0, 100, 0);
        x.coin(1, 100, 0);
        x.dies(2, 0);
        Desk.due("one WHO, no COINS", Desk.sale(x, 0, 0, 0, 1), -1);
        Desk.due("one WHO, PRICE 0", Desk.sale(x, 0, 0, 0, 0, 0), -1);
        Desk.due("DEAD, no COIN", Desk.sale(x, 2, 0, 0, 1, 2), -1);
        Desk.due("not his, one twice", Desk.sale(x, 0, 1, 0, 1, 1, 1), -1);
        Desk.due("not his, no MINT", Desk.sale(x, 0, 1, 1, 1, 1), -1);
        Desk.due("too dear, PRICE 10000", Desk.sale(x, 0, 1, 0, 10000, 0), -1);
    }

    private static void deadOrOne() {
        Desk.edge("1 buyer or seller is DEAD, or they are one");
        FaceCoins x = Desk.under("who a;who b;who c;mint m 1 1;");
        x.coin(0, 100, 0);
        Desk.due("one", Desk.sale(x, 0, 0, 0, 1, 0), 1);
        x.dies(2, 1);
        Desk.due("seller is DEAD", Desk.sale(x, 0, 2, 0, 1, 0), 1);
        Desk.due("buyer is DEAD", Desk.sale(x, 2, 0, 0, 1, 0), 1);
        Desk.due("one who is DEAD", Desk.sale(x, 2, 2, 0, 1, 0), 1);
        x.undo();
        Desk.due("seller lives", Desk.sale(x, 0, 2, 0, 1, 0), 0);
    }

    private static void notTheBuyers() {
        Desk.edge("2 a COIN is not the buyer's");
        FaceCoins x = Desk.under("who a;who b;who c;mint m 1 1;");
        for (int c = 0; c < 3; c++) x.coin(0, 100, 0);
        x.rob(2, 1);
        Desk.due("the last one", Desk.sale(x, 0, 1, 0, 1, 0, 1), 2);
        Desk.due("the first one", Desk.sale(x, 0, 1, 0, 1, 1, 0), 2);
        Desk.due("the seller's own", Desk.sale(x, 2, 0, 0, 1, 0), 2);
        Desk.due("his, with another one's FACE", Desk.sale(x, 2, 1, 0, 1, 1), 0);
    }

    private static void valueNone() {
        Desk.edge("3 the VALUE for the seller of one is 0");
        FaceCoins x = Desk.under("who a;who b;who c owes;mint m 1 1;takes b a 1;thin 1;");
        x.coin(0, 100, 0);
        x.coin(0, 101, 0);
        x.coin(2, 500, 0);
        x.rob(0, 2);
        Desk.due("99 at 1", Desk.sale(x, 0, 1, 0, 1, 0), 3);
        Desk.due("with one of 1", Desk.sale(x, 0, 1, 0, 1, 1, 0), 3);
        Desk.due("of one who owes", Desk.sale(x, 0, 1, 0, 1, 1, 2), 3);
        Desk.due("for the seller, not the buyer", Desk.sale(x, 0, 2, 0, 1, 0, 2), 0);
        x.undo();
        Desk.due("100 at 1", Desk.sale(x, 0, 1, 0, 1, 1), 0);
        Desk.due("VALUES", x.sold(0, 6), 1);
    }

    private static void strokesThatCantBe() {
        Desk.edge("4, 5, 6 a STROKE of one of them at the MINT can't be");
        FaceCoins x = Desk.under("who a;who b;mint m 5 1;mint n 1 1;thin 50;faces 2;");
        x.coin(0, 60, 0);
        x.coin(0, 59, 0);
        x.coin(0, 90, 0);
        Desk.due("5", Desk.sale(x, 0, 1, 0, 1, 2, 1), 5);
        Desk.due("just as thin", Desk.sale(x, 0, 1, 0, 1, 2, 0), 0);
        Desk.due("50 then", x.of(0, 0), 50);
        x.rob(0, 2);
        Desk.due("6", Desk.sale(x, 0, 1, 1, 1, 1, 2), 6);
        Desk.due("the last STROKE", Desk.sale(x, 0, 1, 1, 1, 1), 0);
        x.close(1);
        Desk.due("4", Desk.sale(x, 1, 0, 1, 1, 1), 4);
        Desk.due("5 at the other MINT, ahead of 6", Desk.sale(x, 1, 0, 0, 1, 1), 5);
    }

    private static void belowPrice() {
        Desk.edge("7 VALUES together are below PRICE");
        FaceCoins x = Desk.under("who a;who b;mint m 1 1;takes b a 33;");
        x.coin(0, 101, 0);
        x.coin(0, 102, 0);
        Desk.due("33 and 33: each is cut", Desk.sale(x, 0, 1, 0, 67, 0, 1), 7);
        Desk.due("just as much", Desk.sale(x, 0, 1, 0, 66, 0, 1), 0);
        Desk.due("VALUES", x.sold(0, 6), 66);
        x.undo();
        Desk.due("one alone", Desk.sale(x, 0, 1, 0, 34, 0), 7);
        Desk.due("one alone", Desk.sale(x, 0, 1, 0, 33, 0), 0);
    }

    private static void eachWrongIsTheLeast() {
        Desk.edge("WRONG, the least");
        // 0: of one who owes; 1: too thin at m; 2: had as many STROKES; 3: b's.
        FaceCoins x = Desk.under("who a;who b;who c owes;mint m 9 1;mint n 1 1;thin 50;faces 2;");
        x.coin(2, 101, 1);
        x.coin(0, 51, 1);
        x.coin(0, 201, 1);
        x.coin(1, 101, 1);
        Desk.due("sale", Desk.sale(x, 0, 1, 1, 1, 2), 0);
        x.rob(0, 0);
        x.rob(0, 2);
        Desk.due("1 of all", Desk.sale(x, 0, 0, 0, 9999, 2, 1, 0, 3), 1);
        Desk.due("2 of all but 1", Desk.sale(x, 0, 1, 0, 9999, 2, 1, 0, 3), 2);
        Desk.due("3 of all but 1, 2", Desk.sale(x, 0, 1, 0, 9999, 2, 1, 0), 3);
        Desk.due("5 of 5, 6, 7", Desk.sale(x, 0, 1, 0, 9999, 2, 1), 5);
        Desk.due("6 of 6, 7", Desk.sale(x, 0, 1, 0, 9999, 2), 6);
        Desk.due("6 of 6, 7 at n, COIN 1 can be", Desk.sale(x, 0, 1, 1, 9999, 1, 2), 5);
        x.close(0);
        Desk.due("4 of 4, 5, 6, 7", Desk.sale(x, 0, 1, 0, 9999, 2, 1), 4);
        Desk.due("3 of 3, 4", Desk.sale(x, 0, 1, 0, 1, 1, 0), 3);
        Desk.due("no SALE but one", x.sales(), 1);
    }

    private static void struckAndSellers() {
        Desk.edge("Else each is struck with the seller's FACE, and is the seller's.");
        FaceCoins x = Desk.under("who a;who b;mint m 1 1;mint n 2 5;");
        for (int c = 0; c < 3; c++) x.coin(0, 100, 0);
        x.day();
        Desk.due("sale", Desk.sale(x, 0, 1, 1, 1, 2, 0), 0);
        for (int c : new int[] {0, 2}) {
            Desk.due("owner", x.of(c, 1), 1);
            Desk.due("on top", x.face(c, 0, 0), 1);
            Desk.due("GRAINS", x.of(c, 0), 97);
        }
        Desk.due("the other one's owner", x.of(1, 1), 0);
        Desk.due("the other one's STROKES", x.of(1, 3), 1);
        int[][] told = {{2, 1, 1, 1, 0, 0, 1}, {0, 1, 1, 1, 0, 0, 1}};
        for (int k = 0; k < 2; k++) for (int i = 0; i < 7; i++) Desk.due("STROKE", x.stroke(3 + k, i), told[k][i]);
    }

    private static void salesDone() {
        Desk.edge("SALES that were done.");
        FaceCoins x = Desk.under("who a;who b;mint m 1 1;");
        x.coin(0, 100, 0);
        Desk.due("too dear", Desk.sale(x, 0, 1, 0, 100, 0), 7);
        Desk.due("none", x.sales(), 0);
        Desk.due("sale", Desk.sale(x, 0, 1, 0, 99, 0), 0);
        Desk.due("one", x.sales(), 1);
        Desk.due("payment", x.payment(1, 0, 0, 50), 98);
        Desk.due("still one", x.sales(), 1);
        Desk.due("buy", x.buy(1, 0, 0, 50), 98);
        Desk.due("two", x.sales(), 2);
        x.undo();
        Desk.due("one", x.sales(), 1);
        Desk.none("the second", () -> x.sold(1, 0));
    }

    private static void soldOnes() {
        Desk.edge("sold: NoSuchElementException: no such ones.");
        FaceCoins x = Desk.under("who a;who b;mint m 1 1;mint n 1 1;");
        Desk.none("of no SALE", () -> x.sold(0, 0));
        x.coin(1, 100, 0);
        x.day();
        Desk.due("sale", Desk.sale(x, 1, 0, 1, 98, 0), 0);
        int[] told = {1, 0, 1, 98, 1, 1, 99};
        for (int i = 0; i < 7; i++) Desk.due("sold " + i, x.sold(0, i), told[i]);
        for (int k : new int[] {-1, 1, LEAST, MOST}) Desk.none("SALE " + k, () -> x.sold(k, 0));
        for (int what : new int[] {-1, 7, LEAST, MOST}) Desk.none("what " + what, () -> x.sold(0, what));
    }

    private static void priceOfPayments() {
        Desk.edge("PAYMENT of a PRICE (1 to 2000)");
        FaceCoins x = Desk.under("who a;who b;mint m 1 1;");
        x.coin(0, 2001, 0);
        for (int price : new int[] {0, -1, 2001, LEAST, MOST}) {
            Desk.due("payment of " + price, x.payment(0, 1, 0, price), -2);
            Desk.due("buy of " + price, x.buy(0, 1, 0, price), -2);
        }
        Desk.due("payment of 2000", x.payment(0, 1, 0, 2000), 2000);
        Desk.due("payment of 1", x.payment(0, 1, 0, 1), 2000);
        Desk.due("buy of 2000", x.buy(0, 1, 0, 2000), 2000);
        Desk.due("buy of 1", x.buy(1, 0, 0, 1), 1999);
    }

    private static void notAsTold() {
        Desk.edge("-2: not as told (WRONG 1, too).");
        FaceCoins x = Desk.under("who a;who b;who c;mint m 1 1;");
        for (int w = 0; w < 3; w++) x.coin(w, 100, 0);
        for (int w : new int[] {-1, 3, LEAST, MOST}) {
            Desk.due("buyer " + w, x.payment(w, 1, 0, 5), -2);
            Desk.due("seller " + w, x.payment(0, w, 0, 5), -2);
            Desk.due("buy by " + w, x.buy(w, 1, 0, 5), -2);
            Desk.due("buy of " + w, x.buy(0, w, 0, 5), -2);
        }
        for (int m : new int[] {-1, 1, LEAST, MOST}) {
            Desk.due("MINT " + m, x.payment(0, 1, m, 5), -2);
            Desk.due("buy at MINT " + m, x.buy(0, 1, m, 5), -2);
        }
        Desk.due("they are one", x.payment(0, 0, 0, 5), -2);
        Desk.due("buy as one", x.buy(0, 0, 0, 5), -2);
        x.dies(2, 0);
        Desk.due("buyer is DEAD", x.payment(2, 0, 0, 5), -2);
        Desk.due("seller is DEAD", x.payment(0, 2, 0, 5), -2);
        Desk.due("buy, DEAD", x.buy(2, 0, 0, 5), -2);
        Desk.due("buy of one who is DEAD", x.buy(0, 2, 0, 5), -2);
        Desk.due("as told", x.payment(0, 1, 0, 5), 99);
    }

    private static void thereIsNone() {
        Desk.edge("NONE: there is none");
        FaceCoins x = Desk.under("who a;who b;mint m 1 1;");
        Desk.due("no COINS", x.payment(0, 1, 0, 1), -1);
        x.coin(0, 100, 0);
        Desk.due("too dear", x.payment(0, 1, 0, 100), -1);
        Desk.due("of the other one's", x.payment(1, 0, 0, 1), -1);
        x.close(0);
        Desk.due("closed", x.payment(0, 1, 0, 1), -1);
        Desk.due("buy: closed", x.buy(0, 1, 0, 1), -1);
    }

    private static void pricedOrMore() {
        Desk.edge("VALUES are PRICE or more");
        FaceCoins x = Desk.under("who a;who b;mint m 1 1;");
        x.coin(0, 101, 0);
        x.coin(0, 121, 0);
        Desk.due("100", x.payment(0, 1, 0, 100), 100);
        Desk.due("101", x.payment(0, 1, 0, 101), 120);
        Desk.due("120", x.payment(0, 1, 0, 120), 120);
        Desk.due("121", x.payment(0, 1, 0, 121), 220);
        Desk.due("220", x.payment(0, 1, 0, 220), 220);
        Desk.due("221", x.payment(0, 1, 0, 221), -1);
        Desk.due("buy of 220", x.buy(0, 1, 0, 220), 220);
        Desk.due("VALUES", x.sold(0, 6), 220);
        x.undo();
        Desk.due("buy of 119", x.buy(0, 1, 0, 119), 120);
        Desk.due("PRICE", x.sold(0, 3), 119);
        Desk.due("COINS", x.sold(0, 5), 1);
        Desk.due("VALUES above it", x.sold(0, 6), 120);
    }

    private static void firstTwelve() {
        Desk.edge("of the buyer's first 12 COINS");
        FaceCoins x = Desk.under("who a;who b;mint m 1 1;");
        for (int c = 0; c < 11; c++) x.coin(0, 101, 0);
        x.coin(1, 101, 0);
        x.coin(0, 101, 0);
        x.coin(0, 61, 0);
        Desk.due("12 of them", x.payment(0, 1, 0, 1200), 1200);
        Desk.due("no 13th", x.payment(0, 1, 0, 1201), -1);
        Desk.due("the 13th is not given, though it has least GRAINS", x.payment(0, 1, 0, 50), 100);
        int[] told = {0, 0, 0, 0, 0, 0, 0, 0, 0, 0, 0, -1, 1, -1};
        for (int c = 0; c < told.length; c++) Desk.due("paid(" + c + ")", x.paid(c), told[c]);
        x.rob(1, 4);
        Desk.due("it is the 12th now", x.payment(0, 1, 0, 50), 60);
        Desk.due("given", x.paid(13), 1);
    }

    private static void eachAboveNone() {
        Desk.edge("VALUES (.. each above 0)");
        FaceCoins x = Desk.under("who a;who b;who c owes;mint m 50 1;takes b a 1;takes b c 100;thin 1;");
        x.coin(2, 200, 0);
        x.rob(0, 0);
        // Of c, who owes: 0; struck at m it has 100 GRAINS, which b takes at 1.
        Desk.due("struck", x.payment(0, 1, 0, 1), 150);
        Desk.due("at m", x.paid(0), 2);
        x.coin(2, 199, 0);
        x.rob(1, 0);
        x.rob(0, 1);
        Desk.due("99 GRAINS at 1 are 0", x.payment(0, 1, 0, 1), -1);
    }

    private static void thinAndGiven() {
        Desk.edge("such that STROKES can all be (the seller's, too)");
        FaceCoins x = Desk.under("who a;who b;mint m 5 1;mint n 1 1;thin 50;");
        x.coin(0, 56, 1);
        Desk.due("50 left", x.payment(0, 1, 0, 1), 55);
        FaceCoins y = Desk.under("who a;who b;mint m 5 1;mint n 1 1;thin 50;");
        y.coin(0, 55, 1);
        Desk.due("49 left", y.payment(0, 1, 0, 1), -1);
        Desk.due("53 left at n", y.payment(0, 1, 1, 1), 54);
    }

    private static void facesAndGiven() {
        Desk.edge("such that STROKES can all be: 6 the COIN had as many STROKES as 'faces'");
        FaceCoins x = Desk.under("who a;who b;mint m 1 1;faces 2;");
        x.coin(0, 100, 0);
        Desk.due("the second STROKE", x.payment(0, 1, 0, 1), 99);
        Desk.due("buy", x.buy(0, 1, 0, 1), 99);
        Desk.due("no third", x.payment(1, 0, 0, 1), -1);
    }

    private static void thinAndStruck() {
        Desk.edge("struck first at one of the MINTS with his own FACE and then given, such that STROKES can all be");
        String law = "who a;who b;who c owes;mint m 5 1;mint n 3 1;thin 50;faces 3;";
        // Restruck at m 5 and 5 are lost, at n 3 and 5.
        int[] made = {63, 62, 60, 61};
        int[] ways = {2, 3, -1, 3};
        for (int i = 0; i < made.length; i++) {
            FaceCoins x = Desk.under(law);
            x.coin(2, made[i], 1);
            x.rob(0, 0);
            Desk.due("" + (made[i] - 3), x.payment(0, 1, 0, 1), ways[i] < 0 ? -1 : made[i] - 3);
            Desk.due("way of " + (made[i] - 3), x.paid(0), ways[i]);
        }
    }

    private static void facesAndStruck() {
        Desk.edge("such that STROKES can all be: his own and the seller's are two");
        for (int most = 1; most <= 3; most++) {
            FaceCoins x = Desk.under("who a;who b;who c owes;mint m 1 1;faces " + most + ";");
            x.coin(2, 100, 0);
            x.rob(0, 0);
            Desk.due("of " + most, x.payment(0, 1, 0, 1), most == 3 ? 99 : -1);
        }
    }

    private static void closedAndStruck() {
        Desk.edge("4 the MINT is closed (of his own STROKE and of the seller's)");
        FaceCoins x = Desk.under("who a;who b;who c owes;mint m 1 1;mint n 2 1;");
        x.coin(2, 100, 0);
        x.rob(0, 0);
        Desk.due("at m", x.payment(0, 1, 0, 1), 99);
        Desk.due("struck at m", x.paid(0), 2);
        x.close(0);
        Desk.due("the seller's at n", x.payment(0, 1, 1, 1), 99);
        Desk.due("struck at n", x.paid(0), 3);
        Desk.due("the seller's can't be", x.payment(0, 1, 0, 1), -1);
        x.close(1);
        Desk.due("none can be", x.payment(0, 1, 1, 1), -1);
    }

    private static void leastGrains() {
        Desk.edge("the one with the least GRAINS");
        // b takes c's at 200: less GRAINS may be of more COINS, or of a COIN that comes later.
        FaceCoins x = Desk.under("who a;who b;who c;mint m 1 1;takes b c 200;thin 1;");
        x.coin(0, 101, 0);
        x.coin(2, 31, 0);
        x.coin(2, 26, 0);
        x.coin(0, 59, 0);
        x.rob(0, 1);
        x.rob(0, 2);
        Desk.due("50", x.payment(0, 1, 0, 50), 25);
        Desk.due("51", x.payment(0, 1, 0, 51), 30);
        Desk.due("61", x.payment(0, 1, 0, 61), 55);
        Desk.due("111", x.payment(0, 1, 0, 111), 58 + 30);
        Desk.due("169", x.payment(0, 1, 0, 169), 125 + 30);
        // Two of less GRAINS, ahead of one and behind it.
        for (int[] made : new int[][] {{101, 31, 32}, {31, 32, 101}, {31, 101, 32}}) {
            FaceCoins y = Desk.under("who a;who b;mint m 1 1;thin 1;");
            for (int grains : made) y.coin(0, grains, 0);
            Desk.due("two of 61", y.payment(0, 1, 0, 60), 61);
            for (int c = 0; c < 3; c++) Desk.due("paid(" + c + ")", y.paid(c), made[c] < 100 ? 1 : 0);
        }
    }

    private static void grainsAhead() {
        Desk.edge("(those that are given, as they are ahead of his STROKES)");
        FaceCoins x = Desk.under("who a;who b;who c owes;mint m 50 1;");
        x.coin(2, 300, 0);
        x.coin(0, 290, 0);
        x.rob(0, 0);
        Desk.due("250, as struck it has 200", x.payment(0, 1, 0, 200), 240);
        Desk.due("given is COIN 1", x.paid(1), 1);
        Desk.due("of both", x.payment(0, 1, 0, 440), 490);
        Desk.due("struck is COIN 0", x.paid(0), 2);
        Desk.due("buy tells the same", x.buy(0, 1, 0, 440), 490);
    }

    private static void fewestGiven() {
        Desk.edge("of like ones the fewest given");
        FaceCoins x = Desk.under("who a;who b;mint m 1 1;thin 1;");
        int[] made = {21, 31, 41, 51, 91};
        for (int grains : made) x.coin(0, grains, 0);
        Desk.due("90: one, not 40 and 50", x.payment(0, 1, 0, 85), 90);
        int[] told = {0, 0, 0, 0, 1};
        for (int c = 0; c < 5; c++) Desk.due("paid(" + c + ")", x.paid(c), told[c]);
        x.rob(1, 4);
        Desk.due("90: 40 and 50, not 20, 30 and 40", x.payment(0, 1, 0, 85), 90);
        int[] two = {0, 0, 1, 1, -1};
        for (int c = 0; c < 5; c++) Desk.due("paid(" + c + ")", x.paid(c), two[c]);
        // The fewest come first here.
        FaceCoins y = Desk.under("who a;who b;mint m 1 1;thin 1;");
        for (int i = made.length - 1; i >= 0; i--) y.coin(0, made[i], 0);
        Desk.due("90: one", y.payment(0, 1, 0, 85), 90);
        for (int c = 0; c < 5; c++) Desk.due("paid(" + c + ")", y.paid(c), c == 0 ? 1 : 0);
        y.rob(1, 0);
        Desk.due("90: 50 and 40", y.payment(0, 1, 0, 85), 90);
        int[] turned = {-1, 1, 1, 0, 0};
        for (int c = 0; c < 5; c++) Desk.due("paid(" + c + ")", y.paid(c), turned[c]);
    }

    private static void firstOnes() {
        Desk.edge("then the first (COIN by COIN: left, given, struck at MINT 0, 1, ..)");
        FaceCoins x = Desk.under("who a;who b;who c;mint m 2 1;mint n 2 1;mint o 1 1;takes b c 50;");
        for (int c = 0; c < 3; c++) {
            x.coin(2, 202, 0);
            x.rob(0, c);
        }
        ways(x, 100, 0, 0, 1);
        ways(x, 101, 0, 0, 2);
        ways(x, 198, 0, 0, 2);
        ways(x, 199, 0, 0, 4);
        ways(x, 200, 0, 1, 1);
        ways(x, 298, 0, 1, 2);
        ways(x, 299, 0, 1, 4);
        ways(x, 300, 0, 2, 2);
        ways(x, 396, 0, 2, 2);
        ways(x, 397, 0, 2, 4);
        ways(x, 398, 0, 4, 4);
        ways(x, 399, 1, 1, 4);
        ways(x, 597, 4, 4, 4);
        // Of COINS that weigh the same the later ones are given, of sums that are the same the later COINS.
        FaceCoins y = Desk.under("who a;who b;mint m 1 1;thin 1;");
        int[] made = {51, 11, 41, 31, 21, 11};
        for (int grains : made) y.coin(0, grains, 0);
        lastGiven(y, 60, 0, 0, 1, 0, 1, 0);
        lastGiven(y, 50, 1, 0, 0, 0, 0, 0);
        lastGiven(y, 40, 0, 0, 1, 0, 0, 0);
        lastGiven(y, 10, 0, 0, 0, 0, 0, 1);
        lastGiven(y, 70, 0, 0, 1, 1, 0, 0);
        lastGiven(y, 110, 1, 0, 1, 0, 1, 0);
        lastGiven(y, 150, 1, 0, 1, 1, 1, 1);
        lastGiven(y, 160, 1, 1, 1, 1, 1, 1);
        onlyStruck();
    }

    /** COIN 0 is worth 60, struck 99; COIN 1 is worth 70 and bears one STROKE more: 159 are not made by 60. */
    private static void onlyStruck() {
        FaceCoins x = Desk.under("who a;who b;who c;who d;mint m 1 1;takes b c 60;takes b d 70;faces 3;");
        x.coin(2, 101, 0);
        x.coin(2, 102, 0);
        Desk.due("to d", Desk.sale(x, 2, 3, 0, 1, 1), 0);
        x.rob(0, 0);
        x.rob(0, 1);
        Desk.due("159", x.payment(0, 1, 0, 159), 200);
        Desk.due("struck", x.paid(0), 2);
        Desk.due("given", x.paid(1), 1);
        Desk.due("130", x.payment(0, 1, 0, 130), 200);
        Desk.due("given", x.paid(0), 1);
        Desk.due("170 is too much", x.payment(0, 1, 0, 170), -1);
    }

    private static void lastGiven(FaceCoins x, int price, int... told) {
        Desk.due("payment of " + price, x.payment(0, 1, 0, price), price);
        for (int c = 0; c < told.length; c++) Desk.due(price + ": paid(" + c + ")", x.paid(c), told[c]);
    }

    private static void ways(FaceCoins x, int price, int... told) {
        int given = 0;
        for (int way : told) given += way > 0 ? 200 : 0;
        Desk.due("payment of " + price, x.payment(0, 1, 0, price), given);
        for (int c = 0; c < told.length; c++) Desk.due(price + ": paid(" + c + ")", x.paid(c), told[c]);
    }

    private static void luckAsItIsNow() {
        Desk.edge("VALUES (by LUCK as it is now; the SALE by the VALUES as they were reckoned)");
        // a begs, c does not: what a strikes makes LUCK less, but not for this PAYMENT.
        FaceCoins x = Desk.under("who a begs;who b;who c owes;mint m 1 1;lucky 10;thin 1;");
        x.coin(2, 102, 0);
        x.coin(2, 102, 0);
        x.rob(0, 0);
        x.rob(0, 1);
        Desk.due("100 at 110, twice", x.payment(0, 1, 0, 220), 202);
        Desk.due("no more", x.payment(0, 1, 0, 221), -1);
        Desk.due("buy", x.buy(0, 1, 0, 220), 202);
        Desk.due("VALUES", x.sold(0, 6), 220);
        // b's FACE makes LUCK more: a SALE reckons all its COINS ahead of its STROKES.
        FaceCoins y = Desk.under("who a begs;who b;mint m 1 1;lucky 10;thin 1;");
        y.coin(0, 101, 0);
        y.coin(0, 101, 0);
        Desk.due("108 twice", Desk.sale(y, 0, 1, 0, 217, 0, 1), 7);
        Desk.due("108 twice", Desk.sale(y, 0, 1, 0, 216, 0, 1), 0);
        Desk.due("VALUES", y.sold(0, 6), 216);
    }

    private static void paidOnes() {
        Desk.edge("NONE: no such one then (of those of the buyer looked at), or ahead of any.");
        FaceCoins x = Desk.under("who a;who b;mint m 1 1;");
        Desk.due("ahead of any", x.paid(0), -1);
        x.coin(1, 100, 0);
        x.coin(0, 100, 0);
        x.coin(0, 100, 0);
        Desk.due("none", x.payment(0, 1, 0, 1000), -1);
        Desk.due("still ahead of any", x.paid(1), -1);
        Desk.due("payment", x.payment(0, 1, 0, 10), 99);
        int[] told = {-1, 0, 1, -1};
        for (int c = 0; c < told.length; c++) Desk.due("paid(" + c + ")", x.paid(c), told[c]);
        for (int c : new int[] {-1, 39, 40, LEAST, MOST}) Desk.due("paid(" + c + ")", x.paid(c), -1);
        x.coin(0, 100, 0);
        Desk.due("a later COIN", x.paid(3), -1);
    }

    private static void paidOfTheLatest() {
        Desk.edge("by the latest payment() that was 0 or above; paid() is of it, if there is one");
        FaceCoins x = Desk.under("who a;who b;mint m 1 1;");
        x.coin(0, 100, 0);
        x.coin(1, 100, 0);
        x.payment(0, 1, 0, 10);
        paid(x, 1, -1);
        Desk.due("none", x.payment(1, 0, 0, 1000), -1);
        paid(x, 1, -1);
        Desk.due("not as told", x.payment(1, 1, 0, 10), -2);
        paid(x, 1, -1);
        Desk.due("no buy", x.buy(1, 0, 0, 1000), -1);
        Desk.due("buy not as told", x.buy(1, 1, 0, 10), -2);
        paid(x, 1, -1);
        Desk.due("the other one", x.payment(1, 0, 0, 10), 99);
        paid(x, -1, 1);
        Desk.due("buy", x.buy(0, 1, 0, 10), 99);
        paid(x, 1, -1);
        x.undo();
        paid(x, 1, -1);
        Desk.due("sale", Desk.sale(x, 1, 0, 0, 1, 1), 0);
        paid(x, 1, -1);
    }

    private static void paid(FaceCoins x, int first, int second) {
        Desk.due("paid(0)", x.paid(0), first);
        Desk.due("paid(1)", x.paid(1), second);
    }

    private static void buying() {
        Desk.edge("a PAYMENT done (his STROKES, COIN by COIN, then the SALE by the VALUES as they were reckoned)");
        FaceCoins x = Desk.under("who a;who b;who c owes;mint m 1 2;mint n 2 3;");
        for (int c = 0; c < 3; c++) x.coin(c == 1 ? 0 : 2, 101, 0);
        x.rob(0, 0);
        x.rob(0, 2);
        x.day();
        Desk.due("buy", x.buy(0, 1, 1, 298), 300);
        int[][] told = {{0, 0, 0, 1, -1, 0, 1}, {2, 0, 0, 1, -1, 0, 1}, {0, 1, 1, 1, 0, 0, 1}, {1, 1, 1, 1, 0, 0, 1},
            {2, 1, 1, 1, 0, 0, 1}};
        Desk.due("STROKES", x.strokes(), 3 + told.length);
        for (int k = 0; k < told.length; k++) for (int i = 0; i < 7; i++) Desk.due("STROKE " + k + " " + i, x.stroke(3 + k, i), told[k][i]);
        int[] sold = {0, 1, 1, 298, 1, 3, 298};
        for (int i = 0; i < 7; i++) Desk.due("sold " + i, x.sold(0, i), sold[i]);
        int[][] faces = {{1, 9}, {0, 6}, {2, 4}};
        for (int i = 0; i < 3; i++) for (int j = 0; j < 2; j++) Desk.due("face", x.face(0, i, j), faces[i][j]);
        Desk.due("one ACT", x.undo(), 5);
        Desk.due("STROKES", x.strokes(), 3);
        Desk.due("SALES", x.sales(), 0);
    }

    private static void buyingOfFewer() {
        Desk.edge("a PAYMENT done (of the COINS of this buyer alone)");
        // a's second and third COINS are struck in his PAYMENT; b has one.
        FaceCoins x = Desk.under("who a;who b;who c owes;mint m 1 1;");
        for (int c = 0; c < 4; c++) x.coin(c == 0 ? 0 : 2, 101, 0);
        for (int c = 1; c < 3; c++) x.rob(0, c);
        x.rob(1, 3);
        Desk.due("payment of a's", x.payment(0, 1, 0, 298), 300);
        Desk.due("struck", x.paid(2), 2);
        Desk.due("buy of b's", x.buy(1, 0, 0, 99), 100);
        Desk.due("STROKES", x.strokes(), 6);
        Desk.due("COINS", x.sold(0, 5), 1);
        for (int c = 0; c < 3; c++) {
            Desk.due("owner", x.of(c, 1), 0);
            Desk.due("STROKES that it had", x.of(c, 3), 1);
        }
        // Of b's first twelve he gives one; a has but two, and one of them is worth nothing.
        FaceCoins y = Desk.under("who a;who b;who c owes;mint m 1 1;faces 2;");
        for (int c = 0; c < 12; c++) y.coin(1, 101, 0);
        y.coin(2, 101, 0);
        y.coin(0, 101, 0);
        y.rob(0, 12);
        Desk.due("all of b's", y.payment(1, 0, 0, 1200), 1200);
        Desk.due("one of a's", y.payment(0, 1, 0, 100), 100);
        Desk.due("left, as it can't be struck twice", y.paid(12), 0);
        Desk.due("given", y.paid(13), 1);
        Desk.due("not of b's", y.paid(0), -1);
    }

    private static void buyIsRefused() {
        Desk.edge("NONE, -2 as for payment()");
        FaceCoins x = Desk.under("who a;who b;mint m 1 1;");
        x.coin(0, 100, 0);
        Desk.due("too dear", x.buy(0, 1, 0, 100), -1);
        Desk.due("just as much", x.buy(0, 1, 0, 99), 99);
        Desk.due("STROKES", x.strokes(), 2);
    }
}
