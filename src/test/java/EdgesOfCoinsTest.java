/** Each sentence on COINS, STROKES, HUNDREDTHS that names a boundary (promises 6 to 13). */
public final class EdgesOfCoinsTest {
    private static final int LEAST = Integer.MIN_VALUE;
    private static final int MOST = Integer.MAX_VALUE;

    public static void main(String[] args) {
        whoAndMint();
        whatHeHas();
        coinGrains();
        coinStroke();
        coinNotAsTold();
        fortyCoins();
        thin();
        faces();
        facesAreStrokesHad();
        leastThatCantBe();
        depths();
        depthsBelowNone();
        twiceTheSameFace();
        ofCoins();
        facesOfCoins();
        ownFaceOnTop();
        anotherOneWhoOwes();
        dead();
        takes();
        luckMore();
        luckAtLeastNone();
        luckOfFacesOnTop();
        cut();
        valueOfNone();
        bearsByThin();
        bearsByFaces();
        bearsOfNone();
        Desk.close();
    }

    private static void whoAndMint() {
        Desk.edge("NoSuchElementException: no such ones.");
        FaceCoins x = Desk.under("who a;who b;mint m 1 2;");
        for (int what = 0; what < 6; what++) Desk.due("who(1, " + what + ")", x.who(1, what), 0);
        int[] told = {1, 2, 0, 0};
        for (int what = 0; what < 4; what++) Desk.due("mint(0, " + what + ")", x.mint(0, what), told[what]);
        for (int w : new int[] {-1, 2, 8, LEAST, MOST}) Desk.none("who(" + w + ", 0)", () -> x.who(w, 0));
        for (int what : new int[] {-1, 6, LEAST, MOST}) Desk.none("who(0, " + what + ")", () -> x.who(0, what));
        for (int m : new int[] {-1, 1, 4, LEAST, MOST}) Desk.none("mint(" + m + ", 0)", () -> x.mint(m, 0));
        for (int what : new int[] {-1, 4, LEAST, MOST}) Desk.none("mint(0, " + what + ")", () -> x.mint(0, what));
    }

    private static void whatHeHas() {
        Desk.edge("3 COINS that he has, 4 GRAINS of these, 5 COINS with his FACE on top");
        FaceCoins x = Desk.under("who a;who b;who c;mint m 1 1;");
        int[] made = {101, 102, 104, 108, 116};
        for (int c = 0; c < made.length; c++) x.coin(c % 2, made[c], 0);
        x.rob(1, 0);
        x.rob(1, 4);
        int[][] told = {{1, 103, 3}, {4, 100 + 101 + 107 + 115, 2}, {0, 0, 0}};
        for (int w = 0; w < 3; w++) for (int i = 0; i < 3; i++) Desk.due("who(" + w + ", " + (3 + i) + ")", x.who(w, 3 + i), told[w][i]);
        FaceCoins y = Desk.under("who a;mint m 1 1;");
        for (int c = 0; c < 40; c++) y.coin(0, 9999, 0);
        Desk.due("all COINS", y.who(0, 3), 40);
        Desk.due("all GRAINS", y.who(0, 4), 40 * 9998);
        Desk.due("all with his FACE", y.who(0, 5), 40);
        Desk.due("STROKES at the MINT", y.mint(0, 3), 40);
    }

    private static void coinGrains() {
        Desk.edge("GRAINS 1 to 9999 ahead of that");
        FaceCoins x = Desk.under("who a;mint m 1 1;thin 1;");
        Desk.due("9999", x.coin(0, 9999, 0), 0);
        Desk.due("9998 then", x.of(0, 0), 9998);
        Desk.due("10000", x.coin(0, 10000, 0), -1);
        Desk.due("most", x.coin(0, MOST, 0), -1);
        Desk.due("2", x.coin(0, 2, 0), 1);
        Desk.due("1 then", x.of(1, 0), 1);
        // 1 GRAIN is as told, but the STROKE can't be.
        Desk.due("1", x.coin(0, 1, 0), -1);
        Desk.due("0", x.coin(0, 0, 0), -1);
        Desk.due("-1", x.coin(0, -1, 0), -1);
        Desk.due("least", x.coin(0, LEAST, 0), -1);
        Desk.due("made", x.silver(0), 10001);
    }

    private static void coinStroke() {
        Desk.edge("a STROKE that can't be");
        FaceCoins x = Desk.under("who a;mint m 5 1;mint n 50 1;thin 50;faces 1;");
        Desk.due("49 left", x.coin(0, 54, 0), -1);
        Desk.due("50 left", x.coin(0, 55, 0), 0);
        Desk.due("49 left at n", x.coin(0, 99, 1), -1);
        Desk.due("50 left at n", x.coin(0, 100, 1), 1);
        x.close(0);
        Desk.due("closed", x.coin(0, 55, 0), -1);
        FaceCoins y = Desk.under("who a;mint m 50 1;thin 999;");
        Desk.due("998 left", y.coin(0, 1048, 0), -1);
        Desk.due("999 left", y.coin(0, 1049, 0), 0);
    }

    private static void coinNotAsTold() {
        Desk.edge("a COIN made (for a WHO not DEAD)");
        FaceCoins x = Desk.under("who a;who b;mint m 1 1;");
        for (int w : new int[] {-1, 2, LEAST, MOST}) Desk.due("WHO " + w, x.coin(w, 100, 0), -1);
        for (int m : new int[] {-1, 1, LEAST, MOST}) Desk.due("MINT " + m, x.coin(0, 100, m), -1);
        x.dies(1, 0);
        Desk.due("DEAD", x.coin(1, 100, 0), -1);
        Desk.due("none", x.count(7), 0);
        Desk.due("not DEAD", x.coin(0, 100, 0), 0);
    }

    private static void fortyCoins() {
        Desk.edge("500 at most, 40 COINS; an ACT that would have more is not done");
        FaceCoins x = Desk.under("who a;mint m 1 1;");
        for (int c = 0; c < 40; c++) Desk.due("coin", x.coin(0, 100, 0), c);
        Desk.due("a 41st", x.coin(0, 100, 0), -1);
        Desk.due("40", x.count(7), 40);
        Desk.due("of the 40th", x.of(39, 0), 99);
        Desk.none("of a 41st", () -> x.of(40, 0));
        x.undo();
        Desk.due("39", x.count(7), 39);
        Desk.due("the 40th again", x.coin(0, 100, 0), 39);
        Desk.due("and no more", x.coin(0, 100, 0), -1);
    }

    /** WHO 1 has the die of WHO 0 and so can strike his own COINS. */
    private static FaceCoins forger(String law, int grains, int m) {
        FaceCoins x = Desk.under(law);
        Desk.due("coin", x.coin(1, grains, m), 0);
        Desk.yes("steal", x.steal(1, 0));
        return x;
    }

    private static void thin() {
        Desk.edge("5 GRAINS less LOSS are below 'thin'");
        String law = "who a;who b;mint m 1 1;mint n 7 1;thin 20;";
        Desk.due("one below", forger(law, 27, 0).forge(0, 1), 5);
        Desk.due("just as thin", forger(law, 28, 0).forge(0, 1), 0);
        FaceCoins x = forger(law, 28, 0);
        x.forge(0, 1);
        Desk.due("20 then", x.of(0, 0), 20);
        Desk.due("19 at m", x.forge(0, 0), 5);
    }

    private static void faces() {
        Desk.edge("6 the COIN had as many STROKES as 'faces'");
        for (int most = 1; most <= 9; most++) {
            FaceCoins x = forger("who a;who b;mint m 1 1;faces " + most + ";", 100, 0);
            for (int had = 1; had < most; had++) Desk.due("stroke " + had + " of " + most, x.forge(0, 0), 0);
            Desk.due("one more than " + most, x.forge(0, 0), 6);
            Desk.due("had", x.of(0, 3), most);
            Desk.due("FACES", x.of(0, 2), most);
        }
    }

    private static void facesAreStrokesHad() {
        Desk.edge("6 the COIN had as many STROKES as 'faces' (gone FACES are STROKES, too)");
        FaceCoins x = forger("who a;who b;mint m 1 9;faces 3;", 100, 0);
        x.forge(0, 0);
        x.forge(0, 0);
        Desk.due("one FACE", x.of(0, 2), 1);
        Desk.due("three STROKES", x.of(0, 3), 3);
        Desk.due("no fourth", x.forge(0, 0), 6);
    }

    private static void leastThatCantBe() {
        Desk.edge("it can't be, the least: 4 the MINT is closed; 5; 6");
        FaceCoins x = forger("who a;who b;mint m 1 1;mint n 9 1;thin 50;faces 1;", 52, 0);
        Desk.due("6 alone", x.forge(0, 0), 6);
        Desk.due("5 and 6", x.forge(0, 1), 5);
        x.close(0);
        x.close(1);
        Desk.due("4 and 6", x.forge(0, 0), 4);
        Desk.due("4, 5 and 6", x.forge(0, 1), 4);
    }

    private static void depths(int blur, int... told) {
        FaceCoins x = forger("who a;who b;mint m 1 " + blur + ";faces 9;", 100, 0);
        for (int i = 1; i < 9; i++) x.forge(0, 0);
        Desk.due("FACES by BLUR " + blur, x.of(0, 2), told.length);
        for (int i = 0; i < told.length; i++) Desk.due("DEPTH " + i + " by BLUR " + blur, x.face(0, i, 1), told[i]);
        Desk.due("none under it", x.face(0, told.length, 1), -1);
    }

    private static void depths() {
        Desk.edge("the DEPTH of all FACES is BLUR less (0 or below: the FACE is gone), and the FACE is on top with DEPTH 9");
        depths(1, 9, 8, 7, 6, 5, 4, 3, 2, 1);
        depths(2, 9, 7, 5, 3, 1);
        depths(3, 9, 6, 3);
        depths(4, 9, 5, 1);
        depths(5, 9, 4);
        depths(6, 9, 3);
        depths(7, 9, 2);
        depths(8, 9, 1);
        depths(9, 9);
    }

    private static void depthsBelowNone() {
        Desk.edge("0 or below: the FACE is gone");
        FaceCoins x = forger("who a;who b;mint m 1 3;mint n 1 6;mint o 1 7;mint p 1 5;faces 9;", 100, 0);
        x.forge(0, 0);
        Desk.due("6 is left", x.face(0, 1, 1), 6);
        x.forge(0, 3);
        Desk.due("1 is left", x.face(0, 2, 1), 1);
        x.undo();
        x.forge(0, 1);
        Desk.due("0 is gone", x.of(0, 2), 2);
        x.undo();
        x.forge(0, 2);
        Desk.due("-1 is gone", x.of(0, 2), 2);
        Desk.due("2 is left", x.face(0, 1, 1), 2);
        Desk.due("it is the later one", x.face(0, 1, 2), 1);
        Desk.due("STROKE 0 is not shown", x.stroke(0, 6), 0);
        Desk.due("STROKE 1 is", x.stroke(1, 6), 1);
    }

    private static void twiceTheSameFace() {
        Desk.edge("FACES one over another, the latest on top, each of a WHO");
        FaceCoins x = Desk.under("who a;who b;mint m 1 2;");
        x.coin(0, 100, 0);
        Desk.due("to b", Desk.sale(x, 0, 1, 0, 1, 0), 0);
        Desk.due("to a", Desk.sale(x, 1, 0, 0, 1, 0), 0);
        int[][] told = {{0, 9, 2}, {1, 7, 1}, {0, 5, 0}};
        for (int i = 0; i < 3; i++) for (int j = 0; j < 3; j++) Desk.due("face " + i + " " + j, x.face(0, i, j), told[i][j]);
        Desk.due("COINS with a's on top", x.who(0, 5), 1);
        Desk.due("with b's", x.who(1, 5), 0);
    }

    private static void ofCoins() {
        Desk.edge("of: NoSuchElementException: no such ones.");
        FaceCoins x = Desk.under("who a;who b;mint m 1 2;");
        Desk.none("of no COIN", () -> x.of(0, 0));
        x.coin(1, 100, 0);
        int[] told = {99, 1, 1, 1, 0};
        for (int what = 0; what < 5; what++) Desk.due("of(0, " + what + ")", x.of(0, what), told[what]);
        for (int c : new int[] {-1, 1, 40, LEAST, MOST}) Desk.none("of(" + c + ", 0)", () -> x.of(c, 0));
        for (int what : new int[] {-1, 5, LEAST, MOST}) Desk.none("of(0, " + what + ")", () -> x.of(0, what));
    }

    private static void facesOfCoins() {
        Desk.edge("Of FACE i of COIN c (0: on top): NONE: no such ones.");
        FaceCoins x = forger("who a;who b;mint m 1 1;", 100, 0);
        x.forge(0, 0);
        int[][] told = {{0, 9, 1}, {1, 8, 0}};
        for (int i = 0; i < 2; i++) for (int j = 0; j < 3; j++) Desk.due("face " + i + " " + j, x.face(0, i, j), told[i][j]);
        for (int i : new int[] {-1, 2, 9, LEAST, MOST}) Desk.due("FACE " + i, x.face(0, i, 0), -1);
        for (int c : new int[] {-1, 1, 40, LEAST, MOST}) Desk.due("COIN " + c, x.face(c, 0, 0), -1);
        for (int what : new int[] {-1, 3, LEAST, MOST}) Desk.due("what " + what, x.face(0, 0, what), -1);
    }

    private static void ownFaceOnTop() {
        Desk.edge("100, if his own FACE is on top");
        FaceCoins x = Desk.under("who a begs owes;who b;mint m 1 1;takes a a 7;lucky 50;dead 9;thin 1;");
        x.coin(0, 51, 0);
        Desk.due("his own, though he begs, owes, takes it at 7", x.value(0, 0, 0), 100);
        x.rob(1, 0);
        Desk.due("another one's, with his FACE", x.value(0, 0, 0), 100);
        x.dies(0, 1);
        Desk.due("and DEAD", x.value(0, 0, 0), 100);
        Desk.due("VALUE", x.value(0, 0, 1), 50);
        // His own under another one's is not on top.
        FaceCoins y = Desk.under("who a;who b;mint m 1 1;takes a b 30;");
        y.coin(0, 100, 0);
        Desk.due("sale", Desk.sale(y, 0, 1, 0, 1, 0), 0);
        Desk.due("not on top", y.value(0, 0, 0), 30);
    }

    private static void anotherOneWhoOwes() {
        Desk.edge("0, if that of another one who owes");
        FaceCoins x = Desk.under("who a begs owes;who b;mint m 1 1;takes b a 200;lucky 50;dead 200;thin 1;");
        x.coin(0, 51, 0);
        Desk.due("though told at 200, though he begs", x.value(1, 0, 0), 0);
        Desk.due("VALUE", x.value(1, 0, 1), 0);
        x.dies(0, 1);
        Desk.due("though DEAD", x.value(1, 0, 0), 0);
    }

    private static void dead() {
        Desk.edge("else 'dead', if that one is DEAD, what he 'takes' of that one, if not");
        FaceCoins x = Desk.under("who a;who b;who c;mint m 1 1;takes b a 70;dead 0;thin 1;");
        x.coin(0, 51, 0);
        Desk.due("told", x.value(1, 0, 0), 70);
        Desk.due("not told", x.value(2, 0, 0), 100);
        x.dies(0, 1);
        Desk.due("told, DEAD", x.value(1, 0, 0), 0);
        Desk.due("not told, DEAD", x.value(2, 0, 0), 0);
        FaceCoins y = Desk.under("who a;who b;mint m 1 1;takes b a 70;dead 200;thin 1;");
        y.coin(0, 51, 0);
        y.dies(0, 1);
        Desk.due("200", y.value(1, 0, 0), 200);
        FaceCoins z = Desk.under("who a;who b;mint m 1 1;takes b a 70;thin 1;");
        z.coin(0, 51, 0);
        z.dies(0, 1);
        Desk.due("50 without", z.value(1, 0, 0), 50);
        z.undo();
        Desk.due("not DEAD again", z.value(1, 0, 0), 70);
    }

    private static void takes() {
        Desk.edge("what he 'takes' of that one, if not (100 without)");
        FaceCoins x = Desk.under("who a;who b;who c;mint m 1 1;takes a b 0;takes b a 200;thin 1;");
        x.coin(0, 51, 0);
        x.coin(1, 51, 0);
        Desk.due("b's by a: 0", x.value(0, 1, 0), 0);
        Desk.due("its VALUE", x.value(0, 1, 1), 0);
        Desk.due("a's by b: 200", x.value(1, 0, 0), 200);
        Desk.due("its VALUE", x.value(1, 0, 1), 100);
        Desk.due("a's by c: 100 without", x.value(2, 0, 0), 100);
    }

    private static void luckMore() {
        Desk.edge("and LUCK more, if that one begs");
        FaceCoins x = Desk.under("who a begs;who b;mint m 1 1;takes b a 0;lucky 100;dead 200;thin 1;");
        x.coin(0, 51, 0);
        x.coin(1, 51, 0);
        Desk.due("LUCK", x.luck(), 99);
        Desk.due("0 and 99", x.value(1, 0, 0), 99);
        Desk.due("not his who does not beg", x.value(0, 1, 0), 100);
        x.dies(0, 1);
        Desk.due("DEAD: 200 and 99", x.value(1, 0, 0), 299);
        Desk.due("50 GRAINS at 299", x.value(1, 0, 1), 149);
        FaceCoins y = Desk.under("who a begs;who b;mint m 1 1;takes b a 0;thin 1;");
        y.coin(0, 51, 0);
        Desk.due("no LUCK", y.value(1, 0, 0), 0);
    }

    private static void luckAtLeastNone() {
        Desk.edge("'lucky' less how many COINS have the FACE of one who begs on top, 0 at least");
        FaceCoins x = Desk.under("who a begs;who b;mint m 1 1;lucky 2;");
        int[] told = {2, 1, 0, 0, 0};
        for (int i = 0; i < told.length; i++) {
            Desk.due("LUCK by " + i, x.luck(), told[i]);
            x.coin(0, 100, 0);
        }
        Desk.due("taken at 100 and 0", x.value(1, 0, 0), 100);
        FaceCoins y = Desk.under("who a begs;mint m 1 1;");
        y.coin(0, 100, 0);
        Desk.due("0 without", y.luck(), 0);
        FaceCoins z = Desk.under("who a begs;mint m 1 1;lucky 100;");
        for (int c = 0; c < 40; c++) z.coin(0, 100, 0);
        Desk.due("of 40", z.luck(), 60);
    }

    private static void luckOfFacesOnTop() {
        Desk.edge("how many COINS have the FACE of one who begs on top");
        FaceCoins x = Desk.under("who a begs;who b;who c begs;mint m 1 1;lucky 9;");
        x.coin(0, 100, 0);
        x.coin(2, 100, 0);
        x.coin(1, 100, 0);
        Desk.due("two", x.luck(), 7);
        x.rob(1, 0);
        Desk.due("whoever has them", x.luck(), 7);
        Desk.due("to b", Desk.sale(x, 1, 2, 0, 1, 2), 0);
        Desk.due("three", x.luck(), 6);
        Desk.due("to b", Desk.sale(x, 2, 1, 0, 1, 1), 0);
        Desk.due("shown under another one", x.luck(), 7);
        x.dies(0, 1);
        Desk.due("DEAD ones, too", x.luck(), 7);
    }

    private static void cut() {
        Desk.edge("GRAINS times HUNDREDTHS by 100, cut");
        FaceCoins x = Desk.under("who a;who b;who c;who d;mint m 1 1;takes b a 99;takes c a 1;takes d a 101;thin 1;");
        int[][] told = {{2, 0, 0, 1}, {3, 1, 0, 2}, {100, 98, 0, 99}, {101, 99, 1, 101}, {102, 99, 1, 102}, {201, 198, 2, 202},
            {9999, 9898, 99, 10097}};
        for (int c = 0; c < told.length; c++) {
            x.coin(0, told[c][0], 0);
            for (int w = 1; w < 4; w++) Desk.due("GRAINS " + (told[c][0] - 1) + " for " + w, x.value(w, c, 1), told[c][w]);
            Desk.due("for himself", x.value(0, c, 1), told[c][0] - 1);
        }
    }

    private static void valueOfNone() {
        Desk.edge("value: NONE: no such ones.");
        FaceCoins x = Desk.under("who a;who b;mint m 1 1;");
        x.coin(0, 100, 0);
        Desk.due("the last WHO", x.value(1, 0, 0), 100);
        for (int w : new int[] {-1, 2, LEAST, MOST}) Desk.due("WHO " + w, x.value(w, 0, 0), -1);
        for (int c : new int[] {-1, 1, LEAST, MOST}) Desk.due("COIN " + c, x.value(0, c, 0), -1);
        for (int what : new int[] {-1, 2, LEAST, MOST}) Desk.due("what " + what, x.value(0, 0, what), -1);
    }

    private static void bearsByThin() {
        Desk.edge("How many STROKES more COIN c could have at MINT m alone (by 'thin')");
        FaceCoins x = Desk.under("who a;mint m 1 1;mint n 10 9;thin 50;faces 9;");
        int[] made = {51, 60, 61, 70, 71};
        int[] atN = {0, 0, 1, 1, 2};
        int[] atM = {0, 8, 8, 8, 8};
        for (int c = 0; c < made.length; c++) {
            x.coin(0, made[c], 0);
            Desk.due("of " + (made[c] - 1) + " at n", x.bears(c, 1), atN[c]);
            Desk.due("of " + (made[c] - 1) + " at m", x.bears(c, 0), atM[c]);
        }
        x.close(1);
        Desk.due("closed", x.bears(4, 1), 0);
        Desk.due("open", x.bears(4, 0), 8);
    }

    private static void bearsByFaces() {
        Desk.edge("How many STROKES more COIN c could have at MINT m alone (by 'faces')");
        for (int most = 1; most <= 9; most++) {
            FaceCoins x = forger("who a;who b;mint m 1 9;thin 1;faces " + most + ";", 100, 0);
            for (int had = 1; had <= most; had++) {
                Desk.due("had " + had + " of " + most, x.bears(0, 0), most - had);
                x.forge(0, 0);
            }
        }
    }

    private static void bearsOfNone() {
        Desk.edge("bears: NONE: no such ones.");
        FaceCoins x = Desk.under("who a;mint m 1 1;");
        x.coin(0, 100, 0);
        Desk.due("as told", x.bears(0, 0), 4);
        for (int c : new int[] {-1, 1, LEAST, MOST}) Desk.due("COIN " + c, x.bears(c, 0), -1);
        for (int m : new int[] {-1, 1, LEAST, MOST}) Desk.due("MINT " + m, x.bears(0, m), -1);
    }
}
