import java.util.NoSuchElementException;
import java.util.Random;

/**
 * Numbers of all sizes for every call, in many states, on a full world too: nothing but the document's exception is
 * ever thrown, and only by the calls that may. A call that throws changes nothing.
 */
public final class ExtremesTest {
    private static final int[] ODD = {Integer.MIN_VALUE, Integer.MIN_VALUE + 1, -1000000, -256, -2, -1, 0, 1, 2, 3, 7, 8, 9,
        12, 39, 40, 41, 63, 64, 255, 256, 499, 500, 740, 2000, 9999, 10000, 65536, Integer.MAX_VALUE - 1, Integer.MAX_VALUE};
    private static final String LAW = "who a begs;who b;who c owes;who d;who e;who f;who g;who h begs;mint m 1 1;mint n 2 1;"
        + "mint o 3 1;mint p 1 9;lucky 100;thin 1;faces 9;takes a b 200;takes b a 200;";

    private static int wrong = 0;

    public static void main(String[] args) {
        for (int seed = 0; seed < 60; seed++) run(new Random(seed), seed % 3);
        fullWorld();
        System.out.println(wrong == 0 ? "nothing else is thrown" : wrong + " calls throw what they must not");
        if (wrong != 0) System.exit(1);
    }

    private static void run(Random r, int state) {
        FaceCoins x = state == 0 ? new FaceCoins() : Desk.under(LAW);
        if (state == 2) for (int c = 0; c < 20; c++) x.coin(c % 8, 100 + c, c % 4);
        for (int i = 0; i < 480; i++) {
            int kind = r.nextInt(37);
            try {
                call(x, kind, odd(r), odd(r), odd(r), odd(r));
            } catch (NoSuchElementException e) {
                if (kind > 4) tell(kind, e);
            } catch (RuntimeException e) {
                tell(kind, e);
            }
        }
    }

    private static void tell(int kind, RuntimeException e) {
        wrong++;
        System.out.println("call " + kind + " threw " + e);
        e.printStackTrace(System.out);
    }

    private static int odd(Random r) {
        int kind = r.nextInt(10);
        return kind < 5 ? ODD[r.nextInt(ODD.length)] : kind < 9 ? r.nextInt(5) : r.nextInt();
    }

    private static long call(FaceCoins x, int kind, int a, int b, int c, int d) {
        switch (kind) {
            case 0: return x.who(a, b);
            case 1: return x.mint(a, b);
            case 2: return x.of(a, b);
            case 3: return x.sold(a, b);
            case 4: return x.stroke(a, b);
            case 5: return x.feed(a, b, c, d, a);
            case 6: return x.end(a) ? 1 : 0;
            case 7: return d == 7 ? x.law() : 0;
            case 8: return x.fault();
            case 9: return x.coin(a, b, c);
            case 10: return x.face(a, b, c);
            case 11: return x.value(a, b, c);
            case 12: return x.luck();
            case 13: return x.bears(a, b);
            case 14: return x.sale(a, b, c, d);
            case 15: return x.sales();
            case 16: return x.payment(a, b, c, d);
            case 17: return x.paid(a);
            case 18: return x.buy(a, b, c, d);
            case 19: return x.steal(a, b) ? 1 : 0;
            case 20: return x.forge(a, b);
            case 21: return x.day();
            case 22: return x.rob(a, b) ? 1 : 0;
            case 23: return d == 7 ? x.dies(a, b) : 0;
            case 24: return d == 7 && x.close(a) ? 1 : 0;
            case 25: return x.strokes();
            case 26: return x.foreign(a);
            case 27: return x.silver(a);
            case 28: return x.rows(a, b, c);
            case 29: return x.could(a, b);
            case 30: return x.market(a, b);
            case 31: return x.undo();
            case 32: return x.sentence();
            case 33: return x.said(a);
            case 34: return x.image(a) ? 1 : 0;
            case 35: return x.restore(a) ? 1 : 0;
            default: return x.count(a);
        }
    }

    /** All 40 COINS with all nine STROKES: as many as there can be, 360. */
    private static void fullWorld() {
        FaceCoins x = Desk.under(LAW);
        for (int c = 0; c < 40; c++) x.coin(1, 9999, 0);
        x.steal(1, 3);
        int calls = 42;
        for (int c = 0; c < 40; c++) {
            for (int i = 0; i < 8; i++, calls++) if (x.forge(c, 0) != 0) wrong++;
        }
        if (x.strokes() != 360 || x.forge(39, 0) != 6 || x.of(39, 2) != 9 || x.mint(0, 3) != 360) {
            wrong++;
            System.out.println("the full world is not full");
        }
        x.image(0);
        x.undo();
        x.restore(0);
        if (x.strokes() != 360 || x.stroke(359, 6) != 1 || x.payment(1, 0, 0, 5) != -1 || x.market(50, 9) != 0) {
            wrong++;
            System.out.println("the full world is not restored");
        }
    }
}
