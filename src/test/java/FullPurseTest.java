import java.util.Random;

/**
 * PAYMENTS out of twelve COINS and more, which ModelTest is too slow for: random ones, always the same, held to a table
 * of the most VALUE that so many GRAINS in so many COINS can have.
 */
public final class FullPurseTest {
    private static final int PURSES = 250;
    private static final int PRICES = 6;
    private static final int LOOKED = 12;
    private static final int MOST_GRAINS = LOOKED * 130;

    private final Random random;
    private final FaceCoins x;
    private final int mints;
    // At what WHO 1 takes WHO 0, LUCK aside.
    private final int taken;
    private final boolean begs;
    private int found;

    private FullPurseTest(long seed) {
        random = new Random(seed);
        mints = 1 + random.nextInt(4);
        taken = random.nextInt(3) == 0 ? 100 : random.nextInt(160);
        begs = random.nextInt(3) == 0;
        StringBuilder law = new StringBuilder(begs ? "who a begs;" : "who a;").append("who b;who c begs;who d owes;");
        for (int m = 0; m < mints; m++) {
            law.append("mint ").append((char) ('m' + m)).append(' ').append(1 + random.nextInt(9)).append(" 4;");
        }
        law.append("takes b a ").append(taken).append(";takes b c 80;lucky ").append(random.nextInt(30)).append(";thin ");
        law.append(30 + random.nextInt(30)).append(";faces ").append(2 + random.nextInt(3)).append(';');
        x = Desk.under(law.toString());
    }

    public static void main(String[] args) {
        int found = 0;
        for (int purse = 0; purse < PURSES; purse++) {
            FullPurseTest test = new FullPurseTest(purse);
            Desk.edge("purse " + purse);
            test.fill();
            test.pay();
            found += test.found;
        }
        Desk.yes("PAYMENTS that there are: " + found, found > PURSES * PRICES / 2);
        Desk.close();
    }

    /** COINS of many makers, few sorts of weight, most of them WHO 0's in the end. */
    private void fill() {
        int step = 1 + random.nextInt(12);
        for (int i = 0; i < 16; i++) {
            int maker = random.nextInt(3) > 0 ? 0 : random.nextInt(4);
            x.coin(maker, 70 + step * random.nextInt(5), random.nextInt(mints));
        }
        for (int c = 0; c < x.count(7); c++) {
            if (x.of(c, 1) != 0 && random.nextInt(6) > 0) x.rob(0, c);
        }
        if (random.nextInt(5) == 0) x.close(random.nextInt(mints));
    }

    private void pay() {
        int[] purse = new int[LOOKED];
        int looked = 0;
        for (int c = 0; c < x.count(7) && looked < LOOKED; c++) if (x.of(c, 1) == 0) purse[looked++] = c;
        for (int i = 0; i < PRICES; i++) {
            int m = random.nextInt(mints);
            payOnce(purse, looked, m, 1 + random.nextInt(looked * 90));
        }
    }

    private boolean canBeStruck(int grains, int had, int m) {
        return x.mint(m, 2) == 0 && grains - x.mint(m, 0) >= x.count(5) && had < x.count(6);
    }

    /** Of a way in which a COIN is given, its VALUE, 0 if it can't be. */
    private int worth(int c, int way, int m) {
        int grains = x.of(c, 0);
        int had = x.of(c, 3);
        if (way == 1) return canBeStruck(grains, had, m) ? x.value(1, c, 1) : 0;
        if (!canBeStruck(grains, had, way - 2)) return 0;
        grains -= x.mint(way - 2, 0);
        int hundredths = taken + (begs ? x.luck() : 0);
        return canBeStruck(grains, had + 1, m) ? grains * hundredths / 100 : 0;
    }

    private void payOnce(int[] purse, int looked, int m, int price) {
        int[][] worths = new int[looked][2 + mints];
        for (int i = 0; i < looked; i++) {
            for (int way = 1; way < 2 + mints; way++) worths[i][way] = worth(purse[i], way, m);
        }
        int[][][] most = table(purse, looked, worths);
        int got = x.payment(0, 1, m, price);
        for (int grains = 0; grains <= MOST_GRAINS; grains++) {
            for (int number = 1; number <= looked; number++) {
                if (most[0][grains][number] >= price) {
                    Desk.due("payment of " + price, got, grains);
                    sameWays(purse, worths, most, grains, number, price);
                    found++;
                    return;
                }
            }
        }
        Desk.due("payment of " + price, got, FaceCoins.NONE);
    }

    /** [i][g][n]: the most VALUE of n of the COINS from i on, of g GRAINS together; -1 if there are none. */
    private int[][][] table(int[] purse, int looked, int[][] worths) {
        int[][][] most = new int[looked + 1][MOST_GRAINS + 1][looked + 1];
        for (int[] row : most[looked]) java.util.Arrays.fill(row, -1);
        most[looked][0][0] = 0;
        for (int i = looked - 1; i >= 0; i--) {
            int weight = x.of(purse[i], 0);
            int best = java.util.Arrays.stream(worths[i]).max().getAsInt();
            for (int g = 0; g <= MOST_GRAINS; g++) {
                for (int n = 0; n <= looked; n++) {
                    int value = most[i + 1][g][n];
                    boolean can = best > 0 && g >= weight && n > 0 && most[i + 1][g - weight][n - 1] >= 0;
                    most[i][g][n] = can ? Math.max(value, most[i + 1][g - weight][n - 1] + best) : value;
                }
            }
        }
        return most;
    }

    /** COIN by COIN the first way with which what is due can still be had. */
    private void sameWays(int[] purse, int[][] worths, int[][][] most, int grains, int number, int price) {
        for (int i = 0; i < worths.length; i++) {
            int way = 0;
            if (most[i + 1][grains][number] < price || most[i + 1][grains][number] < 0) {
                int weight = x.of(purse[i], 0);
                grains -= weight;
                number--;
                way = 1;
                while (worths[i][way] == 0 || most[i + 1][grains][number] < 0
                    || most[i + 1][grains][number] + worths[i][way] < price) way++;
                price -= worths[i][way];
            }
            Desk.due("paid(" + purse[i] + ")", x.paid(purse[i]), way);
        }
    }
}
