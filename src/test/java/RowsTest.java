/** Promises 30 and 31: ROWS of STROKES that a COIN can have had. */
public final class RowsTest {
    public static void main(String[] args) {
        oneStroke();
        goneFaces();
        shownFaces();
        byThinAndFaces();
        closedMintsToo();
        howMany();
        notAsTold();
        latest();
        Desk.close();
    }

    private static void could(FaceCoins x, int... bits) {
        for (int i = 0; i * 2 < bits.length; i++) {
            Desk.due("people " + i, x.could(i, 0), bits[2 * i]);
            Desk.due("mints " + i, x.could(i, 1), bits[2 * i + 1]);
        }
        Desk.due("no more strokes", x.could(bits.length / 2, 0), -1);
        Desk.due("stroke -1", x.could(-1, 0), -1);
        Desk.due("what 2", x.could(0, 2), -1);
        Desk.due("what -1", x.could(0, -1), -1);
    }

    private static void oneStroke() {
        FaceCoins x = Desk.under("who a;who b;who c;mint m 2 4;mint n 2 9;mint o 3 4;thin 20;");
        Desk.due("ahead of any", x.could(0, 0), -1);
        x.coin(1, 100, 0);
        Desk.due("from 100", x.rows(0, 100, 1), 2);
        could(x, 2, 3);
        Desk.due("from 101", x.rows(0, 101, 1), 1);
        could(x, 2, 4);
        Desk.due("from 102", x.rows(0, 102, 1), 0);
        could(x, 0, 0);
    }

    private static void goneFaces() {
        FaceCoins x = Desk.under("who a;who b;who c;mint m 2 4;mint n 5 9;thin 20;");
        x.coin(0, 100, 0);
        Desk.coins(x, 0);
        x.sale(0, 2, 1, 1);
        // 93 GRAINS, c's FACE alone: what was ahead of n can be anybody's; m and n lose 7, m and m 4, n and n 10.
        Desk.due("two from 100", x.rows(0, 100, 2), 3);
        could(x, 7, 1, 4, 2);
        Desk.due("two from 103", x.rows(0, 103, 2), 3);
        could(x, 7, 2, 4, 2);
        Desk.due("three from 102: m, m, n", x.rows(0, 102, 3), 9);
        could(x, 7, 1, 7, 1, 4, 2);
        Desk.due("three from 105: m, n, n or n, m, n", x.rows(0, 105, 3), 18);
        could(x, 7, 3, 7, 3, 4, 2);
        Desk.due("one from 98", x.rows(0, 98, 1), 1);
    }

    private static void shownFaces() {
        FaceCoins x = Desk.under("who a;who b;mint m 2 4;mint n 2 4;mint o 2 5;thin 20;");
        x.coin(0, 100, 0);
        Desk.coins(x, 0);
        x.sale(0, 1, 1, 1);
        // DEPTHS 9 and 5: the second at m or n, the first anywhere.
        Desk.due("two", x.rows(0, 100, 2), 6);
        could(x, 1, 7, 2, 3);
        // A third one ahead of both would still be shown: 9 less 4 and 4, or is gone by o and m or n.
        Desk.due("three", x.rows(0, 102, 3), 12);
        could(x, 3, 7, 1, 4, 2, 3);
        Desk.due("one", x.rows(0, 98, 1), 0);
    }

    private static void byThinAndFaces() {
        FaceCoins x = Desk.under("who a;mint m 1 9;thin 50;faces 3;");
        x.coin(0, 60, 0);
        Desk.due("three", x.rows(0, 62, 3), 1);
        Desk.due("four", x.rows(0, 63, 4), 0);
        could(x, 0, 0, 0, 0, 0, 0, 0, 0);
        x.coin(0, 51, 0);
        Desk.due("thinnest", x.rows(1, 52, 2), 1);
    }

    private static void closedMintsToo() {
        FaceCoins x = Desk.under("who a;mint m 1 9;mint n 1 9;thin 50;");
        x.coin(0, 60, 0);
        x.close(0);
        x.close(1);
        Desk.due("both closed", x.rows(0, 60, 1), 2);
    }

    private static void howMany() {
        FaceCoins x = Desk.under("who a;who b;mint m 1 9;mint n 1 9;thin 50;faces 9;");
        x.coin(0, 100, 0);
        Desk.due("4 to the 7th", x.rows(0, 106, 7), 64 * 128);
        could(x, 3, 3, 3, 3, 3, 3, 3, 3, 3, 3, 3, 3, 1, 3);
        Desk.due("4 to the 8th", x.rows(0, 107, 8), -2);
        FaceCoins y = Desk.under("who a;mint m 1 1;thin 50;faces 9;");
        y.coin(0, 100, 0);
        Desk.due("1 to the 9th", y.rows(0, 108, 9), 0);
        FaceCoins z = Desk.under("who a;who b;who c;mint m 1 9;faces 9;");
        z.coin(0, 100, 0);
        Desk.due("3 to the 9th", z.rows(0, 108, 9), 6561);
        FaceCoins v = Desk.under("who a;who b;who c;who d;who e;who f;who g;who h;mint m 1 9;mint n 2 9;mint o 3 9;mint p 4 9;");
        v.coin(0, 100, 0);
        Desk.due("32 to the 3rd", v.rows(0, 102, 3), 64);
        Desk.due("32 to the 4th", v.rows(0, 102, 4), -2);
        Desk.due("too many, and more than faces", v.rows(0, 102, 9), -2);
    }

    private static void notAsTold() {
        FaceCoins x = Desk.under("who a;mint m 1 1;thin 50;");
        x.coin(0, 100, 0);
        Desk.due("no coin", x.rows(1, 100, 1), -1);
        Desk.due("no coin", x.rows(-1, 100, 1), -1);
        Desk.due("grains 0", x.rows(0, 0, 1), -1);
        Desk.due("grains 10000", x.rows(0, 10000, 1), -1);
        Desk.due("grains 9999", x.rows(0, 9999, 1), 0);
        Desk.due("none", x.rows(0, 100, 0), -1);
        Desk.due("ten", x.rows(0, 100, 10), -1);
    }

    private static void latest() {
        FaceCoins x = Desk.under("who a;who b;mint m 1 9;mint n 1 9;thin 50;faces 9;");
        x.coin(0, 100, 0);
        Desk.due("rows", x.rows(0, 101, 2), 8);
        Desk.due("none", x.rows(5, 101, 3), -1);
        Desk.due("too many", x.rows(0, 101, 9), -2);
        could(x, 3, 3, 1, 3);
        x.undo();
        could(x, 3, 3, 1, 3);
        Desk.text(x, "");
        x.law();
        could(x, 3, 3, 1, 3);
    }
}
