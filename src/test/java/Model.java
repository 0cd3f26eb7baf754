import java.util.ArrayList;
import java.util.Arrays;
import java.util.HashMap;
import java.util.List;
import java.util.Map;
import java.util.NoSuchElementException;

/** The document read a second time, plainly and slowly: ModelTest holds FaceCoins to it. */
final class Model {
    static final int NONE = -1;
    private static final List<String> TOLD = List.of("who", "begs", "owes", "mint", "takes", "lucky", "dead", "thin",
        "faces", "or", "and", "not", "bears", "shows", "held", "false", "grains", "layers", "struck");

    private static final class Fault extends RuntimeException {
        private static final long serialVersionUID = 1L;
        final int place;
        final int kind;

        Fault(int place, int kind) {
            super(null, null, false, false);
            this.place = place;
            this.kind = kind;
        }
    }

    private record Token(String text, int place) {
        boolean isWord() {
            return text.matches("[a-z]{1,6}");
        }

        boolean isNumber() {
            return text.matches("[0-9]{1,4}");
        }

        boolean isName() {
            return isWord() && !TOLD.contains(text);
        }
    }

    private static final class Law {
        int lines;
        final List<String> people = new ArrayList<>();
        final List<Boolean> begs = new ArrayList<>();
        final List<Boolean> owes = new ArrayList<>();
        final List<String> mints = new ArrayList<>();
        final List<int[]> cost = new ArrayList<>();
        final Map<String, Integer> takes = new HashMap<>();
        final Map<String, Integer> set = new HashMap<>();

        int get(String word, int without) {
            return set.getOrDefault(word, without);
        }
    }

    private static final class Coin {
        int grains;
        int owner;
        int had;
        List<int[]> faces = new ArrayList<>();  // stroke, depth; on top first

        Coin copy() {
            Coin c = new Coin();
            c.grains = grains;
            c.owner = owner;
            c.had = had;
            for (int[] f : faces) c.faces.add(f.clone());
            return c;
        }
    }

    private interface Cond {
        boolean of(State s, int c);
    }

    private static final class State {
        Law law = new Law();
        List<Coin> coins = new ArrayList<>();
        List<int[]> strokes = new ArrayList<>();
        List<int[]> sales = new ArrayList<>();
        boolean[] dead = new boolean[8];
        boolean[] closed = new boolean[4];
        int day;
        int made;
        int dieOf = NONE;
        int dieBy = NONE;
        Cond sentence;

        State copy() {
            State s = new State();
            s.law = law;
            for (Coin c : coins) s.coins.add(c.copy());
            s.strokes.addAll(strokes);
            s.sales.addAll(sales);
            s.dead = dead.clone();
            s.closed = closed.clone();
            s.day = day;
            s.made = made;
            s.dieOf = dieOf;
            s.dieBy = dieBy;
            s.sentence = sentence;
            return s;
        }

        int who(int stroke) {
            return strokes.get(stroke)[1];
        }

        int top(int c) {
            return who(coins.get(c).faces.get(0)[0]);
        }
    }

    private byte[] tape = new byte[0];
    private int fault;
    private State s = new State();
    private final List<State> before = new ArrayList<>();
    private final State[] images = new State[2];
    private final Map<Integer, Integer> paid = new HashMap<>();
    private int[][] could = new int[0][];

    // ---- texts

    private List<Token> tokens;
    private int nextToken;

    private static boolean inRun(byte b) {
        return b >= 'a' && b <= 'z' || b >= '0' && b <= '9';
    }

    private void split(byte[] text, int most) {
        tokens = new ArrayList<>();
        nextToken = 0;
        int i = 0;
        while (i < text.length && (text.length <= most || i < most)) {
            if (text[i] == 32 || text[i] == 10) {
                i++;
                continue;
            }
            int from = i++;
            if (inRun(text[from])) while (i < text.length && inRun(text[i])) i++;
            StringBuilder b = new StringBuilder();
            for (int j = from; j < i; j++) b.append((char) (text[j] & 255));
            tokens.add(new Token(b.toString(), from));
        }
        // The end, and what is past the most bytes, is a TOKEN that can never come.
        tokens.add(new Token(text.length > most ? "\0more" : "\0end", Math.min(text.length, most)));
    }

    private Token peek() {
        return tokens.get(nextToken);
    }

    private Token take() {
        return tokens.get(nextToken++);
    }

    private void expect(String text) {
        if (!peek().text.equals(text)) throw new Fault(peek().place, 1);
        take();
    }

    private boolean takeIf(String text) {
        boolean is = peek().text.equals(text);
        if (is) take();
        return is;
    }

    private int number(int least, int most) {
        Token t = take();
        if (!t.isNumber()) throw new Fault(t.place, 1);
        int n = Integer.parseInt(t.text);
        if (n < least || n > most) throw new Fault(t.place, 2);
        return n;
    }

    private String newName(Law law) {
        Token t = take();
        if (!t.isName()) throw new Fault(t.place, 1);
        if (law.people.contains(t.text) || law.mints.contains(t.text)) throw new Fault(t.place, 3);
        return t.text;
    }

    private int toldWho(Law law) {
        Token t = take();
        if (!t.isName()) throw new Fault(t.place, 1);
        int w = law.people.indexOf(t.text);
        if (w < 0) throw new Fault(t.place, 3);
        return w;
    }

    private Law readLaw() {
        Law law = new Law();
        while (!peek().text.equals("\0end")) {
            Token first = take();
            switch (first.text) {
                case "who" -> {
                    if (law.people.size() == 8) throw new Fault(first.place, 4);
                    law.people.add(newName(law));
                    law.begs.add(takeIf("begs"));
                    law.owes.add(takeIf("owes"));
                }
                case "mint" -> {
                    if (law.mints.size() == 4) throw new Fault(first.place, 4);
                    law.mints.add(newName(law));
                    int loss = number(1, 50);
                    law.cost.add(new int[] {loss, number(1, 9)});
                }
                case "takes" -> {
                    int one = toldWho(law);
                    int place = peek().place;
                    String two = one + " " + toldWho(law);
                    if (law.takes.containsKey(two)) throw new Fault(place, 3);
                    law.takes.put(two, number(0, 200));
                }
                case "lucky", "dead", "thin", "faces" -> {
                    if (law.set.containsKey(first.text)) throw new Fault(first.place, 3);
                    int least = first.text.equals("thin") || first.text.equals("faces") ? 1 : 0;
                    int most = Map.of("lucky", 100, "dead", 200, "thin", 999, "faces", 9).get(first.text);
                    law.set.put(first.text, number(least, most));
                }
                default -> throw new Fault(first.place, 1);
            }
            expect(";");
            law.lines++;
        }
        return law;
    }

    private int ones;

    private Cond readCond(int within) {
        Cond left = readAll(within);
        while (takeIf("or")) {
            Cond one = left;
            Cond two = readAll(within);
            left = (st, c) -> one.of(st, c) | two.of(st, c);
        }
        return left;
    }

    private Cond readAll(int within) {
        Cond left = readOne(within);
        while (takeIf("and")) {
            Cond one = left;
            Cond two = readOne(within);
            left = (st, c) -> one.of(st, c) & two.of(st, c);
        }
        return left;
    }

    private Cond readOne(int within) {
        Token t = take();
        if (!List.of("not", "(", "bears", "shows", "held", "false", "grains", "layers", "struck").contains(t.text)) {
            throw new Fault(t.place, 1);
        }
        if (++ones > 20 || within > 8) throw new Fault(t.place, 4);
        switch (t.text) {
            case "not": {
                Cond one = readOne(within + 1);
                return (st, c) -> !one.of(st, c);
            }
            case "(": {
                Cond one = readCond(within + 1);
                expect(")");
                return one;
            }
            case "bears": {
                int w = toldWho(s.law);
                return (st, c) -> st.top(c) == w;
            }
            case "shows": {
                int w = toldWho(s.law);
                return (st, c) -> st.coins.get(c).faces.stream().anyMatch(f -> st.who(f[0]) == w);
            }
            case "held": {
                int w = toldWho(s.law);
                return (st, c) -> st.coins.get(c).owner == w;
            }
            case "false":
                return Model::showsFalse;
            default: {
                Token sign = take();
                if (!List.of("<", "=", ">").contains(sign.text)) throw new Fault(sign.place, 1);
                int n = number(0, 9999);
                return (st, c) -> {
                    Coin coin = st.coins.get(c);
                    int m = t.text.equals("grains") ? coin.grains : t.text.equals("layers") ? coin.faces.size() : coin.had;
                    return sign.text.equals("<") ? m < n : sign.text.equals("=") ? m == n : m > n;
                };
            }
        }
    }

    private static boolean showsFalse(State st, int c) {
        return st.coins.get(c).faces.stream().anyMatch(f -> st.strokes.get(f[0])[5] == 1);
    }

    int feed(int a, int b, int c, int d, int e) {
        if (tape.length + 20 > 740) return NONE;
        byte[] more = java.nio.ByteBuffer.allocate(20).putInt(a).putInt(b).putInt(c).putInt(d).putInt(e).array();
        int n = tape.length;
        tape = Arrays.copyOf(tape, n + 20);
        System.arraycopy(more, 0, tape, n, 20);
        return tape.length;
    }

    boolean end(int n) {
        if (n < 0 || n > tape.length) return false;
        tape = Arrays.copyOf(tape, n);
        return true;
    }

    int law() {
        split(tape, 700);
        tape = new byte[0];
        try {
            Law law = readLaw();
            s = new State();
            s.law = law;
            before.clear();
            fault = 0;
            return law.lines;
        } catch (Fault f) {
            fault = f.kind;
            return -1 - f.place;
        }
    }

    int sentence() {
        split(tape, 200);
        tape = new byte[0];
        ones = 0;
        try {
            Cond cond = readCond(1);
            if (!peek().text.equals("\0end")) throw new Fault(peek().place, 1);
            s.sentence = cond;
            fault = 0;
            return ones;
        } catch (Fault f) {
            fault = f.kind;
            return -1 - f.place;
        }
    }

    int fault() {
        return fault;
    }

    // ---- what stands

    private boolean isWho(int w) {
        return w >= 0 && w < s.law.people.size();
    }

    private boolean isMint(int m) {
        return m >= 0 && m < s.law.mints.size();
    }

    private boolean isCoin(int c) {
        return c >= 0 && c < s.coins.size();
    }

    private boolean lives(int w) {
        return isWho(w) && !s.dead[w];
    }

    private static int such(boolean there, int answer) {
        if (!there) throw new NoSuchElementException();
        return answer;
    }

    int who(int w, int what) {
        such(isWho(w) && what >= 0 && what <= 5, 0);
        int n = 0;
        switch (what) {
            case 0: return s.law.begs.get(w) ? 1 : 0;
            case 1: return s.law.owes.get(w) ? 1 : 0;
            case 2: return s.dead[w] ? 1 : 0;
            case 3: for (Coin c : s.coins) n += c.owner == w ? 1 : 0; return n;
            case 4: for (Coin c : s.coins) n += c.owner == w ? c.grains : 0; return n;
            default: for (int c = 0; c < s.coins.size(); c++) n += s.top(c) == w ? 1 : 0; return n;
        }
    }

    int mint(int m, int what) {
        such(isMint(m) && what >= 0 && what <= 3, 0);
        if (what < 2) return s.law.cost.get(m)[what];
        if (what == 2) return s.closed[m] ? 1 : 0;
        return (int) s.strokes.stream().filter(k -> k[2] == m).count();
    }

    int of(int c, int what) {
        such(isCoin(c) && what >= 0 && what <= 4, 0);
        Coin coin = s.coins.get(c);
        return new int[] {coin.grains, coin.owner, coin.faces.size(), coin.had, showsFalse(s, c) ? 1 : 0}[what];
    }

    int face(int c, int i, int what) {
        if (!isCoin(c) || i < 0 || i >= s.coins.get(c).faces.size() || what < 0 || what > 2) return NONE;
        int[] f = s.coins.get(c).faces.get(i);
        return what == 0 ? s.who(f[0]) : what == 1 ? f[1] : f[0];
    }

    int luck() {
        int n = s.law.get("lucky", 0);
        for (int c = 0; c < s.coins.size(); c++) if (s.law.begs.get(s.top(c))) n--;
        return Math.max(n, 0);
    }

    private int hundredths(int w, int top) {
        if (w == top) return 100;
        if (s.law.owes.get(top)) return 0;
        int h = s.dead[top] ? s.law.get("dead", 50) : s.law.takes.getOrDefault(w + " " + top, 100);
        return s.law.begs.get(top) ? h + luck() : h;
    }

    private int worth(int w, int c) {
        return s.coins.get(c).grains * hundredths(w, s.top(c)) / 100;
    }

    int value(int w, int c, int what) {
        if (!isWho(w) || !isCoin(c) || what < 0 || what > 1) return NONE;
        return what == 0 ? hundredths(w, s.top(c)) : worth(w, c);
    }

    private int cant(Coin coin, int m) {
        if (s.closed[m]) return 4;
        if (coin.grains - s.law.cost.get(m)[0] < s.law.get("thin", 50)) return 5;
        return coin.had == s.law.get("faces", 5) ? 6 : 0;
    }

    private static void press(Coin coin, int[] cost, int stroke) {
        coin.grains -= cost[0];
        coin.had++;
        for (int[] f : coin.faces) f[1] -= cost[1];
        coin.faces.removeIf(f -> f[1] <= 0);
        coin.faces.add(0, new int[] {stroke, 9});
    }

    private void strike(int c, int w, int m, int sale, boolean lie) {
        s.strokes.add(new int[] {c, w, m, s.day, sale, lie ? 1 : 0});
        press(s.coins.get(c), s.law.cost.get(m), s.strokes.size() - 1);
    }

    int bears(int c, int m) {
        if (!isCoin(c) || !isMint(m)) return NONE;
        Coin coin = s.coins.get(c).copy();
        int n = 0;
        while (cant(coin, m) == 0) {
            press(coin, s.law.cost.get(m), 0);
            n++;
        }
        return n;
    }

    int sales() {
        return s.sales.size();
    }

    int sold(int k, int what) {
        such(k >= 0 && k < s.sales.size() && what >= 0 && what <= 6, 0);
        return s.sales.get(k)[what];
    }

    int strokes() {
        return s.strokes.size();
    }

    int stroke(int k, int what) {
        such(k >= 0 && k < s.strokes.size() && what >= 0 && what <= 6, 0);
        if (what < 6) return s.strokes.get(k)[what];
        for (Coin c : s.coins) for (int[] f : c.faces) if (f[0] == k) return 1;
        return 0;
    }

    private static int pick(List<Integer> found, int k) {
        return k == NONE ? found.size() : k >= 0 && k < found.size() ? found.get(k) : NONE;
    }

    int foreign(int k) {
        List<Integer> found = new ArrayList<>();
        for (int c = 0; c < s.coins.size(); c++) if (s.coins.get(c).owner != s.top(c)) found.add(c);
        return pick(found, k);
    }

    int said(int k) {
        if (s.sentence == null) return NONE;
        List<Integer> found = new ArrayList<>();
        for (int c = 0; c < s.coins.size(); c++) if (s.sentence.of(s, c)) found.add(c);
        return pick(found, k);
    }

    int silver(int what) {
        int now = s.coins.stream().mapToInt(c -> c.grains).sum();
        return what == 0 ? s.made : what == 1 ? now : what == 2 ? s.made - now : NONE;
    }

    int count(int what) {
        int[] counts = {s.law.people.size(), s.law.mints.size(), s.law.takes.size(), s.law.get("lucky", 0),
            s.law.get("dead", 50), s.law.get("thin", 50), s.law.get("faces", 5), s.coins.size(), s.day, s.dieOf, s.dieBy,
            tape.length};
        return what >= 0 && what < counts.length ? counts[what] : NONE;
    }

    // ---- ACTS

    private void keep() {
        before.add(s.copy());
        if (before.size() > 6) before.remove(0);
    }

    int coin(int w, int grains, int m) {
        if (!lives(w) || !isMint(m) || grains < 1 || grains > 9999 || s.coins.size() == 40) return NONE;
        Coin coin = new Coin();
        coin.grains = grains;
        coin.owner = w;
        if (cant(coin, m) != 0) return NONE;
        keep();
        s.coins.add(coin);
        s.made += grains;
        strike(s.coins.size() - 1, w, m, NONE, false);
        return s.coins.size() - 1;
    }

    int sale(int buyer, int seller, int m, int price) {
        byte[] told = tape;
        tape = new byte[0];
        if (!isWho(buyer) || !isWho(seller) || !isMint(m) || price < 1 || price > 9999 || told.length == 0) return NONE;
        List<Integer> coins = new ArrayList<>();
        for (byte b : told) {
            int c = b & 255;
            if (!isCoin(c) || coins.contains(c)) return NONE;
            coins.add(c);
        }
        if (!lives(buyer) || !lives(seller) || buyer == seller) return 1;
        for (int c : coins) if (s.coins.get(c).owner != buyer) return 2;
        for (int c : coins) if (worth(seller, c) == 0) return 3;
        for (int wrong = 4; wrong <= 6; wrong++) for (int c : coins) if (cant(s.coins.get(c), m) == wrong) return wrong;
        int values = coins.stream().mapToInt(c -> worth(seller, c)).sum();
        if (values < price) return 7;
        keep();
        sell(buyer, seller, m, price, coins, values);
        return 0;
    }

    private void sell(int buyer, int seller, int m, int price, List<Integer> coins, int values) {
        s.sales.add(new int[] {buyer, seller, m, price, s.day, coins.size(), values});
        for (int c : coins) {
            strike(c, seller, m, s.sales.size() - 1, false);
            s.coins.get(c).owner = seller;
        }
    }

    private List<Integer> looked;
    private int[] bestWays;
    private int[] bestMark;

    /** Tries all ways of all COINS; the first of the best is kept, as they are tried in their order. */
    private void tryWays(int[] ways, int i, int seller, int m, int price, int[] mark) {
        if (i == ways.length) {
            if (mark[2] < price) return;
            boolean better = bestMark == null || mark[0] < bestMark[0] || mark[0] == bestMark[0] && mark[1] < bestMark[1];
            if (better) {
                bestMark = mark.clone();
                bestWays = ways.clone();
            }
            return;
        }
        int c = looked.get(i);
        Coin coin = s.coins.get(c);
        ways[i] = 0;
        tryWays(ways, i + 1, seller, m, price, mark);
        for (int way = 1; way < 2 + s.law.mints.size(); way++) {
            Coin tried = coin.copy();
            int hundredths = hundredths(seller, s.top(c));
            if (way > 1) {
                if (cant(tried, way - 2) != 0) continue;
                press(tried, s.law.cost.get(way - 2), 0);
                hundredths = hundredths(seller, coin.owner);
            }
            int value = tried.grains * hundredths / 100;
            if (cant(tried, m) != 0 || value == 0) continue;
            ways[i] = way;
            tryWays(ways, i + 1, seller, m, price, new int[] {mark[0] + coin.grains, mark[1] + 1, mark[2] + value});
        }
        ways[i] = 0;
    }

    /** How many ways a PAYMENT of a buyer has to be looked for in: tests keep it low. */
    double effort(int buyer) {
        int coins = isWho(buyer) ? Math.min(12, who(buyer, 3)) : 0;
        return Math.pow(2 + s.law.mints.size(), coins);
    }

    private int seek(int buyer, int seller, int m, int price) {
        if (!lives(buyer) || !lives(seller) || buyer == seller || !isMint(m) || price < 1 || price > 2000) return -2;
        looked = new ArrayList<>();
        for (int c = 0; c < s.coins.size() && looked.size() < 12; c++) if (s.coins.get(c).owner == buyer) looked.add(c);
        bestMark = null;
        tryWays(new int[looked.size()], 0, seller, m, price, new int[3]);
        return bestMark == null ? NONE : bestMark[0];
    }

    private void tellPaid() {
        paid.clear();
        for (int i = 0; i < looked.size(); i++) paid.put(looked.get(i), bestWays[i]);
    }

    int payment(int buyer, int seller, int m, int price) {
        int grains = seek(buyer, seller, m, price);
        if (grains >= 0) tellPaid();
        return grains;
    }

    int paid(int c) {
        return paid.getOrDefault(c, NONE);
    }

    private void settle(int buyer, int seller, int m, int price) {
        List<Integer> coins = new ArrayList<>();
        for (int i = 0; i < looked.size(); i++) {
            if (bestWays[i] > 1) strike(looked.get(i), buyer, bestWays[i] - 2, NONE, false);
            if (bestWays[i] > 0) coins.add(looked.get(i));
        }
        sell(buyer, seller, m, price, coins, bestMark[2]);
    }

    int buy(int buyer, int seller, int m, int price) {
        int grains = seek(buyer, seller, m, price);
        if (grains < 0) return grains;
        tellPaid();
        keep();
        settle(buyer, seller, m, price);
        return grains;
    }

    boolean steal(int thief, int victim) {
        if (!lives(thief) || !lives(victim) || thief == victim || s.dieOf != NONE) return false;
        keep();
        s.dieOf = victim;
        s.dieBy = thief;
        return true;
    }

    int forge(int c, int m) {
        if (!isCoin(c) || !isMint(m)) return NONE;
        if (s.dieOf == NONE) return 1;
        if (s.coins.get(c).owner != s.dieBy) return 2;
        int wrong = cant(s.coins.get(c), m);
        if (wrong != 0) return wrong;
        keep();
        strike(c, s.dieOf, m, NONE, true);
        return 0;
    }

    int day() {
        keep();
        s.dieOf = NONE;
        s.dieBy = NONE;
        return ++s.day;
    }

    boolean rob(int w, int c) {
        if (!lives(w) || !isCoin(c) || s.coins.get(c).owner == w) return false;
        keep();
        s.coins.get(c).owner = w;
        return true;
    }

    int dies(int w, int heir) {
        if (!lives(w) || !lives(heir) || w == heir) return NONE;
        keep();
        s.dead[w] = true;
        if (s.dieOf == w || s.dieBy == w) {
            s.dieOf = NONE;
            s.dieBy = NONE;
        }
        int n = 0;
        for (Coin c : s.coins) {
            if (c.owner == w) {
                c.owner = heir;
                n++;
            }
        }
        return n;
    }

    boolean close(int m) {
        if (!isMint(m) || s.closed[m]) return false;
        keep();
        s.closed[m] = true;
        return true;
    }

    // ---- ROWS, MARKET, undo, images

    private int rowsFound;

    private void tryRow(Coin like, Coin made, int[] row, int i) {
        if (i == row.length) {
            if (!isLike(like, made)) return;
            rowsFound++;
            for (int j = 0; j < row.length; j++) {
                could[j][0] |= 1 << row[j] / s.law.mints.size();
                could[j][1] |= 1 << row[j] % s.law.mints.size();
            }
            return;
        }
        for (int w = 0; w < s.law.people.size(); w++) {
            for (int m = 0; m < s.law.mints.size(); m++) {
                int[] cost = s.law.cost.get(m);
                if (made.grains - cost[0] < s.law.get("thin", 50) || made.had == s.law.get("faces", 5)) continue;
                Coin next = made.copy();
                press(next, cost, w);
                row[i] = w * s.law.mints.size() + m;
                tryRow(like, next, row, i + 1);
            }
        }
    }

    /** Of the made COIN, FACES have a WHO where others have a STROKE. */
    private boolean isLike(Coin like, Coin made) {
        if (like.grains != made.grains || like.faces.size() != made.faces.size()) return false;
        for (int i = 0; i < like.faces.size(); i++) {
            int[] one = like.faces.get(i);
            int[] two = made.faces.get(i);
            if (one[1] != two[1] || s.who(one[0]) != two[0]) return false;
        }
        return true;
    }

    int rows(int c, int grains, int n) {
        if (!isCoin(c) || grains < 1 || grains > 9999 || n < 1 || n > 9) return NONE;
        if (Math.pow(s.law.people.size() * s.law.mints.size(), n) > 60000) return -2;
        could = new int[n][2];
        rowsFound = 0;
        Coin made = new Coin();
        made.grains = grains;
        tryRow(s.coins.get(c), made, new int[n], 0);
        return rowsFound;
    }

    int could(int i, int what) {
        return i >= 0 && i < could.length && what >= 0 && what <= 1 ? could[i][what] : NONE;
    }

    private int x;

    private int draw(int n) {
        x = x * 1103515245 + 12345;
        return (x >>> 8) % n;
    }

    int market(int n, int seed) {
        int people = s.law.people.size();
        if (n < 1 || n > 50 || people == 0 || s.law.mints.isEmpty()) return NONE;
        keep();
        x = seed;
        int done = 0;
        for (int i = 0; i < n; i++) {
            int buyer = draw(people);
            int seller = draw(people);
            if (seller == buyer) seller = (seller + 1) % people;
            int m = draw(s.law.mints.size());
            int price = draw(200) + 1;
            if (seek(buyer, seller, m, price) < 0) continue;
            settle(buyer, seller, m, price);
            done++;
        }
        return done;
    }

    int undo() {
        if (before.isEmpty()) return NONE;
        Cond sentence = s.sentence;
        s = before.remove(before.size() - 1);
        s.sentence = sentence;
        return before.size();
    }

    boolean image(int k) {
        if (k < 0 || k > 1) return false;
        images[k] = s.copy();
        return true;
    }

    boolean restore(int k) {
        if (k < 0 || k > 1 || images[k] == null) return false;
        s = images[k].copy();
        before.clear();
        return true;
    }
}
