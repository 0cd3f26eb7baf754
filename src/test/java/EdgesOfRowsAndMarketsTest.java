/** Each sentence on ROWS, MARKETS, undo that names a boundary (promises 30 to 33). */
public final class EdgesOfRowsAndMarketsTest {
    private static final int LEAST = Integer.MIN_VALUE;
    private static final int MOST = Integer.MAX_VALUE;

    public static void main(String[] args) {
        sixtyThousand();
        noSuchRows();
        strokesOfRows();
        grainsOfRows();
        rowsByThin();
        rowsByFaces();
        rowsOfClosedMints();
        rowsOfDeadPeople();
        sameFaces();
        sameDepths();
        goneOnes();
        couldOnes();
        couldOfNone();
        couldOfTheLatest();
        marketCounts();
        marketOfNobody();
        seedsWrap();
        nextOneRound();
        pricesOfMarkets();
        marketsStayTold();
        undoNone();
        sixAtMost();
        undoneAsFarAsDone();
        facesComeBack();
        undoneCoins();
        noActs();
        Desk.close();
    }

    private static String law(int people, int mints, int faces) {
        StringBuilder b = new StringBuilder();
        for (int i = 0; i < people; i++) b.append("who ").append((char) ('a' + i)).append(';');
        for (int i = 0; i < mints; i++) b.append("mint ").append((char) ('m' + i)).append(" 1 9;");
        return b.append("faces ").append(faces).append(';').toString();
    }

    /** One COIN that shows one FACE: who struck it at which MINT ahead of that can't be seen. */
    private static void rows(int people, int mints, int n, int due) {
        FaceCoins x = Desk.under(law(people, mints, 9));
        x.coin(0, 100, 0);
        Desk.due(people + " PEOPLE, " + mints + " MINTS, " + n + " STROKES", x.rows(0, 98 + n + 1, n), due);
    }

    private static void sixtyThousand() {
        Desk.edge("(PEOPLE times MINTS) n times multiplied, 60000 at most; -2: too many");
        rows(3, 3, 5, 59049 / 3);
        rows(3, 3, 6, -2);
        rows(4, 1, 7, 16384 / 4);
        rows(4, 1, 8, -2);
        rows(2, 2, 7, 16384 / 2);
        rows(2, 2, 8, -2);
        rows(8, 4, 3, 32768 / 8);
        rows(8, 4, 4, -2);
        rows(4, 4, 3, 4096 / 4);
        rows(4, 4, 4, -2);
        rows(3, 1, 9, 19683 / 3);
        rows(2, 1, 9, 256);
        rows(1, 2, 9, 512);
        rows(1, 1, 9, 1);
        rows(8, 1, 5, 32768 / 8);
        rows(8, 1, 6, -2);
        rows(8, 4, 9, -2);
        // More STROKES than 'faces' are too many all the same, if they are.
        FaceCoins x = Desk.under(law(8, 4, 1));
        x.coin(0, 100, 0);
        Desk.due("32 to the 4th", x.rows(0, 103, 4), -2);
        Desk.due("32 to the 3rd", x.rows(0, 102, 3), 0);
    }

    private static void noSuchRows() {
        Desk.edge("rows: NONE: no such ones");
        FaceCoins x = Desk.under(law(8, 4, 5));
        Desk.due("no COIN at all", x.rows(0, 100, 1), -1);
        x.coin(0, 100, 0);
        for (int c : new int[] {-1, 1, 40, LEAST, MOST}) {
            Desk.due("COIN " + c, x.rows(c, 100, 1), -1);
            Desk.due("COIN " + c + ", too many", x.rows(c, 100, 9), -1);
        }
        Desk.due("GRAINS 0, too many", x.rows(0, 0, 9), -1);
    }

    private static void strokesOfRows() {
        Desk.edge("n 1 to 9");
        FaceCoins x = Desk.under("who a;mint m 1 9;faces 9;thin 1;");
        x.coin(0, 100, 0);
        for (int n : new int[] {0, -1, 10, LEAST, MOST}) Desk.due("n " + n, x.rows(0, 100, n), -1);
        for (int n = 1; n <= 9; n++) Desk.due("n " + n, x.rows(0, 99 + n, n), 1);
    }

    private static void grainsOfRows() {
        Desk.edge("from some GRAINS (1 to 9999)");
        FaceCoins x = Desk.under("who a;mint m 1 9;thin 1;");
        x.coin(0, 9999, 0);
        x.coin(0, 2, 0);
        for (int grains : new int[] {0, -1, 10000, LEAST, MOST}) Desk.due("GRAINS " + grains, x.rows(0, grains, 1), -1);
        Desk.due("GRAINS 9999", x.rows(0, 9999, 1), 1);
        Desk.due("GRAINS 9998", x.rows(0, 9998, 1), 0);
        Desk.due("GRAINS 2", x.rows(1, 2, 1), 1);
        Desk.due("GRAINS 1", x.rows(1, 1, 1), 0);
        Desk.due("GRAINS 3", x.rows(1, 3, 1), 0);
    }

    private static void rowsByThin() {
        Desk.edge("(each STROKE by 'thin' .. as it can be)");
        FaceCoins x = Desk.under("who a;mint m 1 9;mint n 2 9;thin 50;");
        x.coin(0, 51, 0);
        Desk.due("just as thin", x.rows(0, 52, 2), 1);
        Desk.due("m or n first", x.rows(0, 53, 2), 2);
        x.coin(0, 52, 0);
        Desk.due("51", x.rows(1, 53, 2), 1);
    }

    private static void rowsByFaces() {
        Desk.edge("(each STROKE by .. 'faces' as it can be)");
        for (int most = 1; most <= 9; most++) {
            FaceCoins x = Desk.under("who a;mint m 1 9;thin 1;faces " + most + ";");
            x.coin(0, 100, 0);
            for (int n = 1; n <= 9; n++) Desk.due(n + " by " + most, x.rows(0, 99 + n, n), n <= most ? 1 : 0);
        }
    }

    private static void rowsOfClosedMints() {
        Desk.edge("(of all PEOPLE and MINTS, closed or not)");
        FaceCoins x = Desk.under("who a;mint m 1 9;mint n 1 9;");
        x.coin(0, 100, 0);
        x.close(0);
        Desk.due("one closed", x.rows(0, 101, 2), 4);
        Desk.due("both can be", x.could(0, 1), 3);
        x.close(1);
        Desk.due("both closed", x.rows(0, 101, 2), 4);
    }

    private static void rowsOfDeadPeople() {
        Desk.edge("of all PEOPLE");
        FaceCoins x = Desk.under("who a;who b;mint m 1 9;");
        x.coin(0, 100, 0);
        x.dies(0, 1);
        Desk.due("of DEAD ones, too", x.rows(0, 101, 2), 2);
        Desk.due("the first", x.could(0, 0), 3);
        Desk.due("the second", x.could(1, 0), 1);
    }

    private static void sameFaces() {
        Desk.edge("the same GRAINS then, FACES, DEPTHS (the FACES)");
        FaceCoins x = Desk.under("who a;who b;mint m 1 1;");
        x.coin(0, 100, 0);
        Desk.due("sale", Desk.sale(x, 0, 1, 0, 1, 0), 0);
        Desk.due("two as they are", x.rows(0, 100, 2), 1);
        Desk.due("a first", x.could(0, 0), 1);
        Desk.due("b then", x.could(1, 0), 2);
        Desk.due("one shows too few", x.rows(0, 99, 1), 0);
        Desk.due("three show too many", x.rows(0, 101, 3), 0);
        Desk.due("other GRAINS", x.rows(0, 101, 2), 0);
        Desk.due("other GRAINS", x.rows(0, 99, 2), 0);
    }

    private static void sameDepths() {
        Desk.edge("the same GRAINS then, FACES, DEPTHS (the DEPTHS)");
        FaceCoins x = Desk.under("who a;who b;mint m 1 3;mint n 1 4;mint o 1 3;");
        x.coin(0, 100, 0);
        Desk.due("sale at m", Desk.sale(x, 0, 1, 0, 1, 0), 0);
        // The first at any MINT; the second at m or o, as at n the first would have DEPTH 5.
        Desk.due("rows", x.rows(0, 100, 2), 6);
        Desk.due("the first", x.could(0, 1), 7);
        Desk.due("the second", x.could(1, 1), 5);
    }

    private static void goneOnes() {
        Desk.edge("(0 or below: the FACE is gone) in ROWS");
        // 9 less 4 and 5 is 0: gone; less 4 and 4 it is shown.
        FaceCoins x = Desk.under("who a;who b;mint m 1 4;mint n 1 5;");
        x.coin(0, 100, 0);
        Desk.due("at m", Desk.sale(x, 0, 1, 0, 1, 0), 0);
        Desk.due("at n", Desk.sale(x, 1, 0, 1, 1, 0), 0);
        Desk.due("two FACES", x.of(0, 2), 2);
        // The first of anybody at m or n, b's at m or n (n and n: 9 less 5 and 5), a's at n.
        Desk.due("rows", x.rows(0, 100, 3), 2 * 2 * 2);
        int[][] told = {{3, 3}, {2, 3}, {1, 2}};
        for (int i = 0; i < 3; i++) for (int j = 0; j < 2; j++) Desk.due("could " + i + " " + j, x.could(i, j), told[i][j]);
        Desk.due("two alone", x.rows(0, 99, 2), 2);
        // A DEPTH of 1 is shown, of one STROKE more it would be gone.
        FaceCoins y = Desk.under("who a;who b;mint m 1 8;mint n 1 9;");
        y.coin(0, 100, 0);
        Desk.due("at m", Desk.sale(y, 0, 1, 0, 1, 0), 0);
        Desk.due("DEPTH", y.face(0, 1, 1), 1);
        Desk.due("rows", y.rows(0, 100, 2), 2);
        Desk.due("the first at m or n", y.could(0, 1), 3);
        Desk.due("the second at m", y.could(1, 1), 1);
        Desk.due("rows of three", y.rows(0, 101, 3), 2 * 2 * 2);
        Desk.due("the first is anybody's", y.could(0, 0), 3);
        Desk.due("the second a's", y.could(1, 0), 1);
        Desk.due("at m or n", y.could(1, 1), 3);
    }

    private static void couldOnes() {
        Desk.edge("Of STROKE i (from 0) .. as bits. NONE: no such ones, or ahead of any.");
        FaceCoins x = Desk.under("who a;who b;who c;who d;who e;who f;who g;who h;mint m 1 9;mint n 1 9;mint o 1 9;mint p 1 9;");
        Desk.due("ahead of any", x.could(0, 0), -1);
        Desk.due("ahead of any", x.could(0, 1), -1);
        x.coin(7, 100, 0);
        Desk.due("rows", x.rows(0, 101, 2), 8 * 4 * 4);
        int[][] told = {{255, 15}, {128, 15}};
        for (int i = 0; i < 2; i++) for (int j = 0; j < 2; j++) Desk.due("could " + i + " " + j, x.could(i, j), told[i][j]);
        for (int i : new int[] {-1, 2, 8, 9, LEAST, MOST}) Desk.due("STROKE " + i, x.could(i, 0), -1);
        for (int what : new int[] {-1, 2, LEAST, MOST}) Desk.due("what " + what, x.could(0, what), -1);
        FaceCoins y = Desk.under("who a;mint m 1 9;faces 9;");
        y.coin(0, 100, 0);
        y.rows(0, 108, 9);
        Desk.due("the ninth STROKE", y.could(8, 0), 1);
        Desk.due("no tenth", y.could(9, 0), -1);
    }

    private static void couldOfNone() {
        Desk.edge("(0, if there were none)");
        FaceCoins x = Desk.under("who a;who b;mint m 1 9;");
        x.coin(0, 100, 0);
        Desk.due("some", x.rows(0, 101, 2), 2);
        Desk.due("none", x.rows(0, 100, 2), 0);
        for (int i = 0; i < 2; i++) for (int j = 0; j < 2; j++) Desk.due("could " + i + " " + j, x.could(i, j), 0);
        Desk.due("no third", x.could(2, 0), -1);
        Desk.due("none by 'faces'", x.rows(0, 105, 6), 0);
        Desk.due("the sixth", x.could(5, 0), 0);
        Desk.due("no seventh", x.could(6, 0), -1);
    }

    private static void couldOfTheLatest() {
        Desk.edge("in the latest rows() that was 0 or above");
        FaceCoins x = Desk.under(law(4, 4, 5));
        x.coin(2, 100, 0);
        Desk.due("rows", x.rows(0, 101, 2), 4 * 16);
        Desk.due("too many", x.rows(0, 103, 4), -2);
        Desk.due("no COIN", x.rows(1, 100, 1), -1);
        Desk.due("no n", x.rows(0, 100, 0), -1);
        Desk.due("no GRAINS", x.rows(0, 10000, 1), -1);
        Desk.due("still two", x.could(1, 0), 4);
        Desk.due("not three", x.could(2, 0), -1);
        x.coin(0, 60, 0);
        x.undo();
        x.day();
        Desk.due("what others do leaves it", x.could(0, 0), 15);
        Desk.due("the later rows()", x.rows(0, 100, 1), 4);
        Desk.due("not two", x.could(1, 0), -1);
    }

    private static void marketCounts() {
        Desk.edge("MARKET of n (1 to 50) PAYMENTS tried");
        FaceCoins x = Desk.under("who a;who b;mint m 1 1;");
        for (int n : new int[] {0, -1, 51, LEAST, MOST}) Desk.due("n " + n, x.market(n, 1), -1);
        Desk.due("no ACT", x.undo(), -1);
        Desk.due("50", x.market(50, 1), 0);
        Desk.due("1", x.market(1, 1), 0);
        Desk.due("two ACTS", x.undo(), 1);
        FaceCoins y = Desk.under("who a;mint m 1 1;");
        y.coin(0, 9999, 0);
        Desk.due("alone he can't buy of himself", y.market(50, 5), 0);
    }

    private static void marketOfNobody() {
        Desk.edge("NONE: not as told, no PEOPLE or MINTS.");
        Desk.due("nobody, nothing", new FaceCoins().market(1, 1), -1);
        FaceCoins x = Desk.under("mint m 1 1;");
        Desk.due("no PEOPLE", x.market(1, 1), -1);
        Desk.due("no ACT", x.undo(), -1);
        FaceCoins y = Desk.under("who a;who b;");
        Desk.due("no MINTS", y.market(1, 1), -1);
        Desk.due("no ACT", y.undo(), -1);
        Desk.due("one WHO, one MINT", Desk.under("who a;mint m 1 1;").market(1, 1), 0);
    }

    private static int x(int seed, int draws) {
        int x = seed;
        for (int i = 0; i < draws; i++) x = x * 1103515245 + 12345;
        return x;
    }

    private static int draw(int seed, int draws, int n) {
        return (x(seed, draws) >>> 8) % n;
    }

    /** A first PAYMENT of a MARKET by a seed is looked at, all having a COIN of 9999. */
    private static void first(int seed) {
        FaceCoins x = Desk.under("who a;who b;who c;who d;who e;mint m 1 1;mint n 2 2;mint o 3 3;");
        for (int w = 0; w < 5; w++) x.coin(w, 9999, 0);
        int buyer = draw(seed, 1, 5);
        int seller = draw(seed, 2, 5);
        if (seller == buyer) seller = (seller + 1) % 5;
        Desk.due("market by " + seed, x.market(1, seed), 1);
        int[] told = {buyer, seller, draw(seed, 3, 3), draw(seed, 4, 200) + 1};
        for (int i = 0; i < 4; i++) Desk.due("sold " + i + " by " + seed, x.sold(0, i), told[i]);
    }

    private static void seedsWrap() {
        Desk.edge("x becomes x * 1103515245 + 12345 (an int, wrapping), the draw is (x >>> 8) % n");
        for (int seed : new int[] {0, 1, -1, LEAST, MOST, LEAST + 1, MOST - 1, 0x7FFFFF00, 0x80000100, -12345}) first(seed);
        // By hand: x is 12345, >>> 8 makes 48 of it, of 5 PEOPLE it is WHO 3.
        Desk.due("x of 0", x(0, 1), 12345);
        FaceCoins x = Desk.under("who a;who b;who c;who d;who e;mint m 1 1;");
        for (int w = 0; w < 5; w++) x.coin(w, 9999, 0);
        Desk.due("market by 0", x.market(1, 0), 1);
        Desk.due("the buyer", x.sold(0, 0), 3);
    }

    private static void nextOneRound() {
        Desk.edge("like the buyer: the next one, round");
        int last = 0;
        int between = 0;
        for (int seed = 0; seed < 400; seed++) {
            if (draw(seed, 1, 3) != draw(seed, 2, 3)) continue;
            int buyer = draw(seed, 1, 3);
            FaceCoins x = Desk.under("who a;who b;who c;mint m 1 1;");
            x.coin(buyer, 9999, 0);
            Desk.due("market by " + seed, x.market(1, seed), 1);
            Desk.due("the next one of " + buyer, x.sold(0, 1), buyer == 2 ? 0 : buyer + 1);
            if (buyer == 2) last++;
            else between++;
            if (last > 3 && between > 5) break;
        }
        Desk.yes("the last one was drawn", last > 0 && between > 0);
        // He is DEAD: there is no PAYMENT, and not another one in his place.
        for (int seed = 0; seed < 400; seed++) {
            if (draw(seed, 1, 3) != 0 || draw(seed, 2, 3) != 0) continue;
            FaceCoins x = Desk.under("who a;who b;who c;mint m 1 1;");
            x.coin(0, 9999, 0);
            x.dies(1, 0);
            Desk.due("with a DEAD one by " + seed, x.market(1, seed), 0);
            break;
        }
    }

    private static void pricesOfMarkets() {
        Desk.edge("of 200 (and 1: the PRICE)");
        int least = 0;
        int most = 0;
        for (int seed = 0; seed < 5000 && (least == 0 || most == 0); seed++) {
            int price = draw(seed, 4, 200) + 1;
            if (price != 1 && price != 200 || price == 1 && least > 0 || price == 200 && most > 0) continue;
            FaceCoins x = Desk.under("who a;who b;mint m 1 1;");
            x.coin(0, 9999, 0);
            x.coin(1, 9999, 0);
            Desk.due("market by " + seed, x.market(1, seed), 1);
            Desk.due("PRICE", x.sold(0, 3), price);
            if (price == 1) least++;
            else most++;
        }
        Desk.yes("1 and 200 were drawn", least == 1 && most == 1);
    }

    private static void marketsStayTold() {
        Desk.edge("how many were done (what paid() tells stays)");
        FaceCoins x = Desk.under("who a;who b;mint m 1 1;faces 9;");
        x.coin(0, 9999, 0);
        x.coin(1, 9999, 0);
        x.payment(0, 1, 0, 5);
        Desk.due("done", x.market(3, 9), x.sales());
        Desk.yes("some", x.sales() > 0);
        Desk.due("paid(0)", x.paid(0), 1);
        Desk.due("paid(1)", x.paid(1), -1);
    }

    private static void facesComeBack() {
        Desk.edge("The latest ACT .. is undone (FACES that it made thinner or struck away)");
        FaceCoins x = Desk.under("who a;who b;mint m 1 4;mint n 1 9;mint o 1 2;");
        x.coin(0, 100, 0);
        Desk.due("at m", Desk.sale(x, 0, 1, 0, 1, 0), 0);
        Desk.due("DEPTH", x.face(0, 1, 1), 5);
        Desk.due("at o", Desk.sale(x, 1, 0, 2, 1, 0), 0);
        Desk.due("DEPTH of the third", x.face(0, 2, 1), 3);
        x.undo();
        Desk.due("DEPTH again", x.face(0, 1, 1), 5);
        Desk.due("at n", Desk.sale(x, 1, 0, 1, 1, 0), 0);
        Desk.due("one FACE", x.of(0, 2), 1);
        x.undo();
        Desk.due("two FACES", x.of(0, 2), 2);
        Desk.due("DEPTH again", x.face(0, 1, 1), 5);
        Desk.due("shown again", x.stroke(0, 6), 1);
        x.undo();
        Desk.due("one FACE", x.of(0, 2), 1);
        Desk.due("DEPTH 9", x.face(0, 0, 1), 9);
        Desk.due("a's", x.face(0, 0, 0), 0);
        Desk.due("GRAINS", x.of(0, 0), 99);
    }

    private static void undoneCoins() {
        Desk.edge("The latest ACT .. is undone (a COIN made)");
        FaceCoins x = Desk.under("who a begs;who b;mint m 1 4;lucky 9;");
        x.coin(1, 100, 0);
        x.coin(0, 200, 0);
        x.rob(1, 1);
        Desk.text(x, "not false");
        x.sentence();
        x.undo();
        x.undo();
        int[][] told = {{0, 0, 0}, {1, 99, 1}};
        for (int w = 0; w < 2; w++) for (int i = 0; i < 3; i++) Desk.due("who(" + w + ", " + (3 + i) + ")", x.who(w, 3 + i), told[w][i]);
        Desk.due("LUCK", x.luck(), 9);
        Desk.due("made", x.silver(0), 100);
        Desk.due("now", x.silver(1), 99);
        Desk.due("foreign", x.foreign(-1), 0);
        Desk.due("said", x.said(-1), 1);
        Desk.due("STROKES at m", x.mint(0, 3), 1);
        Desk.due("a PAYMENT of it", x.payment(1, 0, 0, 100), -1);
        Desk.due("a SALE of it", Desk.sale(x, 1, 0, 0, 1, 1), -1);
        Desk.no("a robber of it", x.rob(0, 1));
        Desk.due("a death", x.dies(1, 0), 1);
    }

    private static void undoNone() {
        Desk.edge("NONE: none is.");
        FaceCoins x = Desk.under("who a;mint m 1 1;");
        Desk.due("ahead of any", x.undo(), -1);
        x.coin(0, 100, 0);
        Desk.due("one", x.undo(), 0);
        Desk.due("no more", x.undo(), -1);
        Desk.due("no COIN", x.count(7), 0);
        x.coin(0, 100, 0);
        Desk.text(x, "who a;mint m 1 1;");
        x.law();
        Desk.due("behind a LAW", x.undo(), -1);
    }

    private static void sixAtMost() {
        Desk.edge("how many more can be (6 at most are kept)");
        for (int acts = 1; acts <= 20; acts++) {
            FaceCoins x = Desk.under("who a;mint m 1 1;");
            for (int i = 0; i < acts; i++) x.coin(0, 100 + i, 0);
            int kept = Math.min(acts, 6);
            for (int left = kept - 1; left >= 0; left--) {
                Desk.due("undo of " + acts, x.undo(), left);
                Desk.due("COINS", x.count(7), acts - kept + left);
            }
            Desk.due("no more of " + acts, x.undo(), -1);
            Desk.due("COINS stay", x.count(7), acts - kept);
            Desk.due("made", x.silver(0), 100 * (acts - kept) + (acts - kept) * (acts - kept - 1) / 2);
        }
        // Undone and done anew, round and round: never more than six.
        FaceCoins x = Desk.under("who a;mint m 1 1;");
        for (int i = 0; i < 6; i++) x.day();
        for (int i = 0; i < 9; i++) {
            Desk.due("one is undone", x.undo(), 5);
            x.day();
            x.day();
        }
        Desk.due("DAY", x.count(8), 15);
        for (int left = 5; left >= 0; left--) Desk.due("undo", x.undo(), left);
        Desk.due("no more", x.undo(), -1);
        Desk.due("DAY", x.count(8), 9);
    }

    private static void undoneAsFarAsDone() {
        Desk.edge("market(), as far as it was done; market() also with 0");
        FaceCoins x = Desk.under("who a;who b;mint m 1 1;faces 9;");
        Desk.due("with 0", x.market(5, 1), 0);
        Desk.due("is an ACT", x.undo(), 0);
        x.coin(0, 300, 0);
        x.coin(1, 300, 0);
        int done = x.market(50, 3);
        Desk.yes("many are one ACT", done > 3);
        Desk.due("SALES", x.sales(), done);
        Desk.due("undone", x.undo(), 2);
        Desk.due("no SALES", x.sales(), 0);
        Desk.due("two STROKES", x.strokes(), 2);
        Desk.due("GRAINS", x.silver(1), 598);
    }

    private static void noActs() {
        Desk.edge("The latest ACT (coin(), sale(), buy(), steal(), forge(), day(), rob(), dies(), close(), market()");
        FaceCoins x = Desk.under("who a;who b;who c;mint m 1 1;mint n 1 1;");
        x.coin(0, 100, 0);
        x.coin(0, 100, 0);
        x.payment(0, 1, 0, 5);
        x.rows(0, 100, 1);
        Desk.text(x, "held a");
        x.sentence();
        x.image(0);
        Desk.due("these are no ACTS", x.undo(), 1);
        x.undo();
        Desk.due("none is left", x.undo(), -1);
        Desk.due("the SENTENCE is not undone", x.said(-1), 0);
        // Seven of the others: the first is no longer kept.
        x.coin(0, 100, 0);
        x.day();
        x.steal(0, 1);
        Desk.due("forge", x.forge(0, 0), 0);
        x.rob(1, 0);
        x.dies(2, 0);
        x.close(1);
        for (int left = 5; left >= 0; left--) Desk.due("undo", x.undo(), left);
        Desk.due("no more", x.undo(), -1);
        Desk.due("the COIN stays", x.count(7), 1);
        Desk.due("DAY", x.count(8), 0);
    }
}
