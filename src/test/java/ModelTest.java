import java.util.NoSuchElementException;
import java.util.Random;

/** Random calls, always the same ones, to FaceCoins and to the Model: all answers and all that can be seen are alike. */
public final class ModelTest {
    private static final int RUNS = 300;
    private static final int CALLS = 180;
    private static final int NOT_THERE = Integer.MIN_VALUE;
    private static final double MOST_EFFORT = 60000;

    private final Random random;
    private final FaceCoins x = new FaceCoins();
    private final Model y = new Model();
    private final StringBuilder told = new StringBuilder();
    // In half of the runs many COINS weigh the same, so that PAYMENTS are alike but for their order.
    private final boolean alike;
    private int wrong;

    private ModelTest(long seed) {
        random = new Random(seed);
        alike = seed % 2 == 0;
    }

    public static void main(String[] args) {
        int wrong = 0;
        for (int run = 0; run < RUNS && wrong < 3; run++) {
            ModelTest test = new ModelTest(run);
            test.run();
            if (test.wrong > 0) {
                wrong++;
                System.out.println("run " + run + ":\n" + test.told);
            }
        }
        System.out.println(wrong == 0 ? RUNS + " random runs are as the model's" : wrong + " runs are not as the model's");
        if (wrong != 0) System.exit(1);
    }

    private interface Call {
        int answer();
    }

    private static int answer(Call call) {
        try {
            return call.answer();
        } catch (NoSuchElementException e) {
            return NOT_THERE;
        }
    }

    private void same(String what, Call one, Call two) {
        int got = answer(one);
        int want = answer(two);
        if (got != want) {
            wrong++;
            told.append(what).append(" answered ").append(got).append(", the model ").append(want).append('\n');
        } else if (!what.startsWith("see ")) {
            told.append(what).append(" = ").append(got).append('\n');
        }
    }

    private static int bit(boolean b) {
        return b ? 1 : 0;
    }

    private void run() {
        for (int i = 0; i < 5 && y.count(0) < 2; i++) law();
        for (int i = 0; i < CALLS && wrong == 0; i++) {
            act();
            if (i % 15 == 0) see();
        }
        see();
    }

    private int upTo(int n) {
        return random.nextInt(n + 1);
    }

    /** Mostly a number below n, now and then one that is not. */
    private int about(int n) {
        return random.nextInt(12) == 0 ? random.nextInt(n + 3) - 1 : n == 0 ? 0 : random.nextInt(n);
    }

    private int who() {
        return about(y.count(0));
    }

    private int mint() {
        return about(y.count(1));
    }

    private int coin() {
        return about(y.count(7));
    }

    private void put(String text) {
        byte[] bytes = text.getBytes(java.nio.charset.StandardCharsets.ISO_8859_1);
        java.nio.ByteBuffer b = java.nio.ByteBuffer.allocate((bytes.length + 19) / 20 * 20);
        b.put(bytes).rewind();
        while (b.remaining() > 0) {
            int[] n = {b.getInt(), b.getInt(), b.getInt(), b.getInt(), b.getInt()};
            same("feed", () -> x.feed(n[0], n[1], n[2], n[3], n[4]), () -> y.feed(n[0], n[1], n[2], n[3], n[4]));
        }
        same("end " + bytes.length, () -> bit(x.end(bytes.length)), () -> bit(y.end(bytes.length)));
    }

    private String spoilt(String text) {
        StringBuilder b = new StringBuilder(text);
        for (int n = upTo(2); n > 0 && b.length() > 0; n--) {
            int at = random.nextInt(b.length());
            switch (random.nextInt(4)) {
                case 0 -> b.deleteCharAt(at);
                case 1 -> b.insert(at, "abm09 ;<=>()\n.Z".charAt(random.nextInt(15)));
                case 2 -> b.insert(at, new String[] {"who ", " not ", "(", " 5 ", "begs ", "or ", "false "}[random.nextInt(7)]);
                default -> b.setLength(at);
            }
        }
        return b.toString();
    }

    private void law() {
        StringBuilder b = new StringBuilder();
        int people = random.nextInt(10) == 0 ? upTo(9) : 2 + upTo(2);
        int mints = random.nextInt(10) == 0 ? upTo(5) : 1 + upTo(2);
        for (int i = 0; i < people; i++) {
            b.append("who ").append((char) ('a' + i));
            if (random.nextInt(3) == 0) b.append(" begs");
            if (random.nextInt(5) == 0) b.append(" owes");
            b.append(';');
        }
        for (int i = 0; i < mints; i++) {
            b.append("mint ").append((char) ('m' + i)).append(' ').append(1 + upTo(6)).append(' ').append(1 + upTo(8)).append(';');
        }
        for (int i = upTo(7); i > 0 && people > 0; i--) {
            String pair = "takes " + (char) ('a' + random.nextInt(people)) + " " + (char) ('a' + random.nextInt(people)) + " ";
            if (b.indexOf(pair) < 0) b.append(pair).append(upTo(140)).append(';');
        }
        if (random.nextBoolean()) b.append("lucky ").append(upTo(30)).append(';');
        if (random.nextBoolean()) b.append("dead ").append(upTo(120)).append(';');
        if (random.nextInt(4) > 0) b.append("thin ").append(1 + upTo(40)).append(';');
        if (random.nextInt(4) > 0) b.append("faces ").append(1 + upTo(8)).append(';');
        String text = random.nextInt(4) == 0 ? spoilt(b.toString()) : b.toString();
        told.append(text).append('\n');
        put(text);
        same("law", x::law, y::law);
        same("fault", x::fault, y::fault);
    }

    private String cond(int depth) {
        String who = String.valueOf((char) ('a' + random.nextInt(4)));
        String sign = "<=>".substring(random.nextInt(3)).substring(0, 1);
        switch (random.nextInt(depth > 0 ? 13 : 8)) {
            case 0: return "bears " + who;
            case 1: return "shows " + who;
            case 2: return "held " + who;
            case 3: return "false";
            case 4: return "grains" + sign + upTo(160);
            case 5: return "layers " + sign + upTo(4);
            case 6: case 7: return "struck" + sign + " " + upTo(5);
            case 8: return "not " + cond(depth - 1);
            case 9: return "(" + cond(depth - 1) + ")";
            case 10: return cond(depth - 1) + " or " + cond(depth - 1);
            default: return cond(depth - 1) + " and " + cond(depth - 1);
        }
    }

    private void sentence() {
        String text = cond(1 + upTo(7));
        if (random.nextInt(5) == 0) text = spoilt(text);
        if (text.length() > 740) text = text.substring(0, 740);
        told.append(text).append('\n');
        put(text);
        same("sentence", x::sentence, y::sentence);
        same("fault", x::fault, y::fault);
    }

    private void act() {
        int kind = random.nextInt(100);
        if (kind < 25) makeCoin();
        else if (kind < 37) sell();
        else if (kind < 60) pay(kind);
        else if (kind < 66) steal();
        else if (kind < 72) forge();
        else if (kind < 75) same("day", x::day, y::day);
        else if (kind < 79) rob();
        else if (kind < 80) die();
        else if (kind < 81) close();
        else if (kind < 85) market();
        else if (kind < 90) rows();
        else if (kind < 93) same("undo", x::undo, y::undo);
        else if (kind < 97) sentence();
        else if (kind < 99) images();
        else if (random.nextInt(3) == 0) law();
    }

    private void makeCoin() {
        int w = who();
        int m = mint();
        int grains = random.nextInt(15) == 0 ? upTo(10001) : alike ? 60 + 10 * upTo(3) : 20 + upTo(150);
        same("coin " + w + " " + grains + " " + m, () -> x.coin(w, grains, m), () -> y.coin(w, grains, m));
    }

    private void sell() {
        int buyer = who();
        int seller = who();
        int m = mint();
        int price = random.nextInt(20) == 0 ? upTo(10001) : upTo(120);
        StringBuilder b = new StringBuilder();
        for (int n = upTo(3); n >= 0; n--) {
            int c = coin();
            // A COIN of another one's is mostly of no use here.
            if (c >= 0 && c < y.count(7) && y.of(c, 1) != buyer && random.nextInt(3) > 0) continue;
            if (b.indexOf(String.valueOf((char) c)) < 0 || random.nextInt(9) == 0) b.append((char) (c & 255));
        }
        put(b.toString());
        same("sale " + buyer + " " + seller + " " + m + " " + price,
            () -> x.sale(buyer, seller, m, price), () -> y.sale(buyer, seller, m, price));
    }

    private void pay(int kind) {
        int buyer = who();
        int seller = who();
        int m = mint();
        int price = random.nextInt(20) == 0 ? upTo(2001) : random.nextInt(3) == 0 ? upTo(500) : upTo(150);
        if (y.effort(buyer) > MOST_EFFORT) return;
        String told = buyer + " " + seller + " " + m + " " + price;
        if (kind % 2 == 0) same("payment " + told, () -> x.payment(buyer, seller, m, price), () -> y.payment(buyer, seller, m, price));
        else same("buy " + told, () -> x.buy(buyer, seller, m, price), () -> y.buy(buyer, seller, m, price));
        seePaid();
    }

    private void seePaid() {
        for (int i = -1; i <= 40; i++) {
            int c = i;
            same("see paid " + c, () -> x.paid(c), () -> y.paid(c));
        }
    }

    private void steal() {
        int thief = who();
        int victim = who();
        same("steal " + thief + " " + victim, () -> bit(x.steal(thief, victim)), () -> bit(y.steal(thief, victim)));
    }

    private void forge() {
        int c = coin();
        int m = mint();
        same("forge " + c + " " + m, () -> x.forge(c, m), () -> y.forge(c, m));
    }

    private void rob() {
        int w = who();
        int c = coin();
        same("rob " + w + " " + c, () -> bit(x.rob(w, c)), () -> bit(y.rob(w, c)));
    }

    private void die() {
        int w = who();
        int heir = who();
        same("dies " + w + " " + heir, () -> x.dies(w, heir), () -> y.dies(w, heir));
    }

    private void close() {
        int m = mint();
        same("close " + m, () -> bit(x.close(m)), () -> bit(y.close(m)));
    }

    private void market() {
        // While it goes on, one WHO may come to have the COINS of all.
        if (Math.pow(2 + y.count(1), Math.min(12, y.count(7))) > MOST_EFFORT * 4) return;
        int n = random.nextInt(9) == 0 ? upTo(52) : 1 + upTo(4);
        int seed = random.nextInt();
        same("market " + n + " " + seed, () -> x.market(n, seed), () -> y.market(n, seed));
        seePaid();
    }

    private void rows() {
        int c = coin();
        int n = random.nextInt(8) == 0 ? upTo(10) : 1 + upTo(3);
        int had = c >= 0 && c < y.count(7) ? y.of(c, 0) : 50;
        int lost = 0;
        for (int i = 0; i < n; i++) lost += y.count(1) > 0 ? y.mint(random.nextInt(y.count(1)), 0) : 0;
        int grains = random.nextInt(9) == 0 ? upTo(10001) - 1 : had + lost;
        same("rows " + c + " " + grains + " " + n, () -> x.rows(c, grains, n), () -> y.rows(c, grains, n));
        for (int i = -1; i <= 9; i++) {
            int at = i;
            for (int j = -1; j <= 2; j++) {
                int what = j;
                same("see could " + at + " " + what, () -> x.could(at, what), () -> y.could(at, what));
            }
        }
    }

    private void images() {
        int k = random.nextInt(4) - 1;
        if (random.nextBoolean()) same("image " + k, () -> bit(x.image(k)), () -> bit(y.image(k)));
        else same("restore " + k, () -> bit(x.restore(k)), () -> bit(y.restore(k)));
    }

    /** All that can be seen without changing anything. */
    private void see() {
        same("see luck", x::luck, y::luck);
        same("see sales", x::sales, y::sales);
        same("see strokes", x::strokes, y::strokes);
        for (int i = -2; i <= 41; i++) {
            int a = i;
            same("see foreign " + a, () -> x.foreign(a), () -> y.foreign(a));
            same("see said " + a, () -> x.said(a), () -> y.said(a));
            same("see count " + a, () -> x.count(a), () -> y.count(a));
            same("see silver " + a, () -> x.silver(a), () -> y.silver(a));
            for (int j = -1; j <= 9; j++) {
                int b = j;
                same("see who " + a + " " + b, () -> x.who(a, b), () -> y.who(a, b));
                same("see mint " + a + " " + b, () -> x.mint(a, b), () -> y.mint(a, b));
                same("see of " + a + " " + b, () -> x.of(a, b), () -> y.of(a, b));
                same("see bears " + a + " " + b, () -> x.bears(a, b), () -> y.bears(a, b));
                for (int k = -1; k <= 3; k++) {
                    int c = k;
                    same("see face " + a + " " + b + " " + c, () -> x.face(a, b, c), () -> y.face(a, b, c));
                    same("see value " + b + " " + a + " " + c, () -> x.value(b, a, c), () -> y.value(b, a, c));
                }
            }
        }
        for (int i = -1; i <= y.strokes(); i++) {
            int k = i;
            for (int j = -1; j <= 7; j++) {
                int what = j;
                same("see stroke " + k + " " + what, () -> x.stroke(k, what), () -> y.stroke(k, what));
                same("see sold " + k + " " + what, () -> x.sold(k, what), () -> y.sold(k, what));
            }
        }
    }
}
