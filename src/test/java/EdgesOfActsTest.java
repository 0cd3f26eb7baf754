/** Each sentence on ACTS, STROKES, foreign COINS, silver that names a boundary (promises 20 to 29). */
public final class EdgesOfActsTest {
    private static final int LEAST = Integer.MIN_VALUE;
    private static final int MOST = Integer.MAX_VALUE;
    private static final String LAW = "who a;who b;who c;mint m 2 4;mint n 5 9;thin 20;faces 3;";

    public static void main(String[] args) {
        oneDieAtATime();
        byAnotherOne();
        noSuchThieves();
        forgeries();
        forgeryIsRefused();
        forgeryFirstOfAll();
        falseFaces();
        dieBackByDay();
        dayNumbers();
        robbed();
        deaths();
        dieBackByDeath();
        deadPeople();
        closing();
        closedMints();
        strokesDone();
        mostStrokes();
        strokeOnes();
        stillShown();
        foreignCoins();
        silverOfAll();
        Desk.close();
    }

    private static void oneDieAtATime() {
        Desk.edge("a die stolen (one at a time");
        FaceCoins x = Desk.under(LAW);
        Desk.due("whose, of none", x.count(9), -1);
        Desk.due("who has none", x.count(10), -1);
        Desk.yes("the first", x.steal(0, 1));
        for (int thief = 0; thief < 3; thief++) {
            for (int victim = 0; victim < 3; victim++) Desk.no(thief + " of " + victim, x.steal(thief, victim));
        }
        Desk.due("whose", x.count(9), 1);
        Desk.due("who has it", x.count(10), 0);
        x.undo();
        Desk.yes("undone: another one", x.steal(2, 0));
        Desk.due("whose", x.count(9), 0);
    }

    private static void byAnotherOne() {
        Desk.edge("by another one, neither DEAD");
        FaceCoins x = Desk.under(LAW);
        for (int w = 0; w < 3; w++) Desk.no("of himself", x.steal(w, w));
        x.dies(2, 0);
        Desk.no("DEAD thief", x.steal(2, 0));
        Desk.no("DEAD victim", x.steal(0, 2));
        Desk.due("none stolen", x.count(9), -1);
        Desk.yes("neither DEAD", x.steal(0, 1));
    }

    private static void noSuchThieves() {
        Desk.edge("steal: false: not as told.");
        FaceCoins x = Desk.under(LAW);
        for (int w : new int[] {-1, 3, 8, LEAST, MOST}) {
            Desk.no("thief " + w, x.steal(w, 0));
            Desk.no("victim " + w, x.steal(0, w));
        }
        Desk.yes("the last ones", x.steal(2, 1));
    }

    private static FaceCoins stolen() {
        FaceCoins x = Desk.under(LAW);
        x.coin(1, 100, 0);
        x.coin(0, 100, 0);
        x.coin(1, 22, 0);
        x.steal(1, 2);
        return x;
    }

    private static void forgeries() {
        Desk.edge("a FORGERY (a COIN of the thief struck with the FACE of whose die he has: FALSE)");
        FaceCoins x = stolen();
        x.steal(1, 2);
        Desk.due("forged", x.forge(0, 1), 0);
        Desk.due("the victim's FACE", x.face(0, 0, 0), 2);
        Desk.due("still the thief's", x.of(0, 1), 1);
        int[] told = {0, 2, 1, 0, -1, 1, 1};
        for (int i = 0; i < 7; i++) Desk.due("STROKE " + i, x.stroke(3, i), told[i]);
        Desk.due("the die is not back", x.forge(0, 1), 0);
    }

    private static void forgeryIsRefused() {
        Desk.edge("1: no die is stolen; 2 it is not the thief's; 4, 5, 6: the STROKE can't be; NONE: no such ones");
        FaceCoins x = stolen();
        for (int c : new int[] {-1, 3, 40, LEAST, MOST}) Desk.due("COIN " + c, x.forge(c, 0), -1);
        for (int m : new int[] {-1, 2, 4, LEAST, MOST}) Desk.due("MINT " + m, x.forge(0, m), -1);
        Desk.due("another one's", x.forge(1, 0), 2);
        Desk.due("too thin", x.forge(2, 0), 5);
        Desk.due("second", x.forge(0, 0), 0);
        Desk.due("third", x.forge(0, 0), 0);
        Desk.due("had as many", x.forge(0, 0), 6);
        x.close(0);
        Desk.due("closed", x.forge(0, 0), 4);
        x.day();
        Desk.due("no die", x.forge(0, 1), 1);
        Desk.due("STROKES", x.strokes(), 5);
    }

    private static void forgeryFirstOfAll() {
        Desk.edge("forge: NONE: no such ones; 1; 2; 4, 5, 6 (which is ahead of which)");
        FaceCoins x = stolen();
        Desk.due("2 ahead of 5", robbed(x, 2).forge(2, 0), 2);
        x.close(0);
        Desk.due("2 ahead of 4", x.forge(1, 0), 2);
        x.day();
        Desk.due("1 ahead of 2", x.forge(1, 0), 1);
        Desk.due("1 ahead of 4", x.forge(0, 0), 1);
        Desk.due("no COIN ahead of 1", x.forge(3, 0), -1);
        Desk.due("no MINT ahead of 1", x.forge(0, 2), -1);
    }

    private static FaceCoins robbed(FaceCoins x, int c) {
        Desk.yes("robbed", x.rob(0, c));
        return x;
    }

    private static void falseFaces() {
        Desk.edge("4 whether it shows a FALSE FACE (1, 0)");
        FaceCoins x = stolen();
        Desk.due("not yet", x.of(0, 4), 0);
        x.forge(0, 0);
        Desk.due("on top", x.of(0, 4), 1);
        Desk.due("sale", Desk.sale(x, 1, 0, 0, 1, 0), 0);
        Desk.due("under another one", x.of(0, 4), 1);
        x.undo();
        Desk.due("sale at n", Desk.sale(x, 1, 0, 1, 1, 0), 0);
        Desk.due("gone", x.of(0, 4), 0);
        Desk.due("it was FALSE", x.stroke(3, 5), 1);
        Desk.due("the SALE's is not", x.stroke(4, 5), 0);
    }

    private static void dieBackByDay() {
        Desk.edge("a DAY more (the die is back)");
        FaceCoins x = stolen();
        x.day();
        Desk.due("nobody's", x.count(9), -1);
        Desk.due("nobody has it", x.count(10), -1);
        Desk.due("no FORGERY", x.forge(0, 0), 1);
        Desk.yes("it may be stolen again", x.steal(1, 2));
        x.undo();
        x.undo();
        Desk.due("undone: it is not back", x.count(9), 2);
        Desk.due("he has it", x.count(10), 1);
    }

    private static void dayNumbers() {
        Desk.edge("A DAY more: its number");
        FaceCoins x = Desk.under(LAW);
        Desk.due("at first", x.count(8), 0);
        x.coin(0, 100, 0);
        Desk.due("the first more", x.day(), 1);
        x.coin(0, 100, 0);
        Desk.due("the second", x.day(), 2);
        Desk.due("of the first STROKE", x.stroke(0, 3), 0);
        Desk.due("of the second", x.stroke(1, 3), 1);
        x.undo();
        Desk.due("the second again", x.day(), 2);
        // NONE at 9999 lies behind the 512th call of an object: ActsTest looks at it all the same.
    }

    private static void robbed() {
        Desk.edge("a COIN robbed (it is another one's, who is not DEAD); false: no such ones, his own, he is DEAD");
        FaceCoins x = Desk.under(LAW);
        x.coin(0, 100, 0);
        for (int w : new int[] {-1, 3, LEAST, MOST}) Desk.no("WHO " + w, x.rob(w, 0));
        for (int c : new int[] {-1, 1, 40, LEAST, MOST}) Desk.no("COIN " + c, x.rob(1, c));
        Desk.no("his own", x.rob(0, 0));
        x.dies(2, 1);
        Desk.no("DEAD", x.rob(2, 0));
        Desk.yes("robbed", x.rob(1, 0));
        Desk.no("his own now", x.rob(1, 0));
        Desk.yes("robbed back", x.rob(0, 0));
        Desk.due("no STROKE", x.strokes(), 1);
    }

    private static void deaths() {
        Desk.edge("a death (his COINS are the heir's, who is not DEAD): how many COINS; NONE: not as told");
        FaceCoins x = Desk.under(LAW);
        for (int c = 0; c < 3; c++) x.coin(0, 100, 0);
        x.coin(1, 100, 0);
        x.rob(2, 1);
        for (int w : new int[] {-1, 3, LEAST, MOST}) {
            Desk.due("WHO " + w, x.dies(w, 0), -1);
            Desk.due("heir " + w, x.dies(0, w), -1);
        }
        Desk.due("his own heir", x.dies(0, 0), -1);
        Desk.due("of no COINS that the heir has already", x.dies(0, 1), 2);
        int[] owners = {1, 2, 1, 1};
        for (int c = 0; c < 4; c++) Desk.due("owner", x.of(c, 1), owners[c]);
        Desk.due("DEAD heir", x.dies(1, 0), -1);
        Desk.due("DEAD already", x.dies(0, 1), -1);
        Desk.due("one", x.dies(2, 1), 1);
        Desk.due("nobody is left to be the heir", x.dies(1, 2), -1);
        FaceCoins y = Desk.under(LAW);
        Desk.due("none", y.dies(0, 1), 0);
        Desk.due("DEAD", y.who(0, 2), 1);
    }

    private static void dieBackByDeath() {
        Desk.edge("a die that he has, or that is his, is back");
        for (int dead = 0; dead < 3; dead++) {
            FaceCoins x = Desk.under(LAW);
            x.steal(0, 1);
            x.dies(dead, (dead + 1) % 3);
            Desk.due("whose, behind the death of " + dead, x.count(9), dead == 2 ? 1 : -1);
            Desk.due("who has it", x.count(10), dead == 2 ? 0 : -1);
            x.undo();
            Desk.due("undone", x.count(9), 1);
        }
    }

    private static void deadPeople() {
        Desk.edge("nobody DEAD; 2 DEAD");
        FaceCoins x = Desk.under("who a;who b;who c;who d;who e;who f;who g;who h;mint m 1 1;");
        x.coin(7, 100, 0);
        Desk.due("the eighth dies", x.dies(7, 0), 1);
        Desk.due("the first dies", x.dies(0, 6), 1);
        for (int w = 0; w < 8; w++) Desk.due("DEAD " + w, x.who(w, 2), w == 0 || w == 7 ? 1 : 0);
        Desk.due("his FACE on top stays", x.who(7, 5), 1);
    }

    private static void closing() {
        Desk.edge("MINT m is closed: true; false: no such one, it is already.");
        FaceCoins x = Desk.under(LAW);
        for (int m : new int[] {-1, 2, 4, LEAST, MOST}) Desk.no("MINT " + m, x.close(m));
        Desk.yes("the last one", x.close(1));
        Desk.no("already", x.close(1));
        x.undo();
        Desk.yes("undone", x.close(1));
        Desk.yes("the first one", x.close(0));
    }

    private static void closedMints() {
        Desk.edge("4 the MINT is closed; all MINTS open");
        FaceCoins x = Desk.under("who a;mint m 1 1;mint n 1 1;mint o 1 1;mint p 1 1;");
        x.close(3);
        x.close(0);
        for (int m = 0; m < 4; m++) {
            boolean closed = m == 0 || m == 3;
            Desk.due("closed " + m, x.mint(m, 2), closed ? 1 : 0);
            Desk.yes("a COIN at " + m, x.coin(0, 100, m) >= 0 != closed);
        }
    }

    private static void strokesDone() {
        Desk.edge("STROKES that were done; 3 STROKES there");
        FaceCoins x = stolen();
        Desk.due("three COINS", x.strokes(), 3);
        x.forge(1, 0);
        x.forge(2, 0);
        Desk.due("refused ones are none", x.strokes(), 3);
        x.forge(0, 1);
        Desk.due("four", x.strokes(), 4);
        Desk.due("at m", x.mint(0, 3), 3);
        Desk.due("at n", x.mint(1, 3), 1);
        x.undo();
        Desk.due("three", x.strokes(), 3);
        Desk.due("at n", x.mint(1, 3), 0);
    }

    private static void mostStrokes() {
        Desk.edge("STROKES are numbered as they are done (500 at most, 40 COINS) - 360 can be: nine of each COIN");
        FaceCoins x = Desk.under("who a;who b;mint m 1 1;mint n 1 1;faces 9;");
        for (int c = 0; c < 40; c++) x.coin(1, 100, 0);
        x.steal(1, 0);
        for (int c = 39; c >= 0; c--) for (int i = 0; i < 8; i++) x.forge(c, 1);
        Desk.due("STROKES", x.strokes(), 360);
        Desk.due("no more", x.forge(0, 1), 6);
        int[][] told = {{0, 0, 1, 0, 0, -1, 0, 1}, {39, 39, 1, 0, 0, -1, 0, 1}, {40, 39, 0, 1, 0, -1, 1, 1},
            {351, 1, 0, 1, 0, -1, 1, 1}, {352, 0, 0, 1, 0, -1, 1, 1}, {359, 0, 0, 1, 0, -1, 1, 1}};
        for (int[] k : told) for (int i = 0; i < 7; i++) Desk.due("STROKE " + k[0] + " " + i, x.stroke(k[0], i), k[1 + i]);
        for (int i = 0; i < 9; i++) Desk.due("its number", x.face(0, i, 2), i == 8 ? 0 : 359 - i);
        Desk.due("at m", x.mint(0, 3), 40);
        Desk.due("at n", x.mint(1, 3), 320);
    }

    private static void strokeOnes() {
        Desk.edge("stroke: NoSuchElementException: no such ones.");
        FaceCoins x = Desk.under(LAW);
        Desk.none("of none", () -> x.stroke(0, 0));
        x.coin(1, 100, 1);
        int[] told = {0, 1, 1, 0, -1, 0, 1};
        for (int i = 0; i < 7; i++) Desk.due("STROKE " + i, x.stroke(0, i), told[i]);
        for (int k : new int[] {-1, 1, 500, LEAST, MOST}) Desk.none("STROKE " + k, () -> x.stroke(k, 0));
        for (int k : new int[] {-1, 1, 500}) Desk.none("shown " + k, () -> x.stroke(k, 6));
        for (int what : new int[] {-1, 7, LEAST, MOST}) Desk.none("what " + what, () -> x.stroke(0, what));
    }

    private static void stillShown() {
        Desk.edge("6 1 if it is still shown");
        FaceCoins x = Desk.under(LAW);
        x.coin(0, 100, 0);
        Desk.due("on top", x.stroke(0, 6), 1);
        Desk.due("at m", Desk.sale(x, 0, 1, 0, 1, 0), 0);
        Desk.due("under another one", x.stroke(0, 6), 1);
        Desk.due("at n", Desk.sale(x, 1, 0, 1, 1, 0), 0);
        int[] told = {0, 0, 1};
        for (int k = 0; k < 3; k++) Desk.due("STROKE " + k, x.stroke(k, 6), told[k]);
    }

    private static void foreignCoins() {
        Desk.edge("COINS the owner of which is not the WHO on top: how many (k NONE), or the k-th one. NONE: none such.");
        FaceCoins x = Desk.under(LAW);
        Desk.due("of none", x.foreign(-1), 0);
        Desk.due("the first of none", x.foreign(0), -1);
        for (int c = 0; c < 40; c++) x.coin(c % 3, 100, 0);
        Desk.due("no foreign one", x.foreign(-1), 0);
        x.rob(1, 0);
        x.rob(1, 39);
        Desk.due("two", x.foreign(-1), 2);
        Desk.due("0", x.foreign(0), 0);
        Desk.due("1", x.foreign(1), 39);
        for (int k : new int[] {2, -2, LEAST, MOST}) Desk.due("" + k, x.foreign(k), -1);
        x.rob(0, 0);
        Desk.due("his own again", x.foreign(0), 39);
        // The owner's FACE under another one's does not help.
        FaceCoins y = Desk.under(LAW);
        y.coin(0, 100, 0);
        Desk.due("sale", Desk.sale(y, 0, 1, 0, 1, 0), 0);
        y.rob(0, 0);
        Desk.due("foreign", y.foreign(-1), 1);
    }

    private static void silverOfAll() {
        Desk.edge("GRAINS: 0 of all COINS made (ahead of their STROKES), 1 of those now, 2 lost. NONE: another what.");
        FaceCoins x = Desk.under("who a;mint m 50 1;thin 1;");
        for (int c = 0; c < 40; c++) x.coin(0, 9999, 0);
        Desk.due("made", x.silver(0), 399960);
        Desk.due("now", x.silver(1), 397960);
        Desk.due("lost", x.silver(2), 2000);
        for (int what : new int[] {-1, 3, LEAST, MOST}) Desk.due("what " + what, x.silver(what), -1);
        Desk.due("one more is not made", x.coin(0, 9999, 0), -1);
        Desk.due("made", x.silver(0), 399960);
    }
}
