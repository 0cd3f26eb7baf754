import java.util.NoSuchElementException;

/** A coinage in which each coin bears its owner's face; DOC.md tells the promises that are numbered here. */
public final class FaceCoins {
    public static final int NONE = -1;

    private static final int TAPE_BYTES = 740;
    private static final int LAW_BYTES = 700;
    private static final int SENTENCE_BYTES = 200;

    private static final int MOST_PEOPLE = 8;
    private static final int MOST_MINTS = 4;
    private static final int MOST_COINS = 40;
    private static final int MOST_STROKES = 500;
    private static final int MOST_FACES = 9;
    private static final int MOST_GRAINS = 9999;
    private static final int MOST_SALE_PRICE = 9999;
    private static final int MOST_PAYMENT_PRICE = 2000;
    private static final int MOST_MARKET = 50;
    private static final int MOST_DAY = 9999;
    private static final int MOST_ROWS = 60000;
    private static final int MOST_ROW_STROKES = 9;
    private static final int FULL_DEPTH = 9;

    private static final int FAULT_TOKEN = 1;
    private static final int FAULT_NUMBER = 2;
    private static final int FAULT_NAME = 3;
    private static final int FAULT_MANY = 4;

    private static final int NOT_AS_TOLD = -2;

    private static final int STROKE_COIN = 0;
    private static final int STROKE_WHO = 1;
    private static final int STROKE_MINT = 2;
    private static final int STROKE_DAY = 3;
    private static final int STROKE_SALE = 4;
    private static final int STROKE_FALSE = 5;
    private static final int STROKE_WIDTH = 6;
    private static final int SALE_WIDTH = 7;

    private final Tape tape;
    private int latestFault;
    private final Law draftLaw;
    private final Sentence draftSentence;
    private final World world;
    private final History history;
    private final World[] images;
    private final Cashier cashier;
    private final int[] latestPaid;
    private final RowFinder rowFinder;

    // ---- promise 1

    public FaceCoins() {
        tape = new Tape();
        draftLaw = new Law();
        draftSentence = new Sentence();
        world = new World();
        history = new History();
        images = new World[2];
        cashier = new Cashier();
        latestPaid = new int[MOST_COINS];
        for (int c = 0; c < MOST_COINS; c++) latestPaid[c] = NONE;
        rowFinder = new RowFinder();
    }

    // ---- promises 2 to 5: the tape and the LAW

    public int feed(int a, int b, int c, int d, int e) {
        if (tape.length + 20 > TAPE_BYTES) return NONE;
        tape.put(a);
        tape.put(b);
        tape.put(c);
        tape.put(d);
        tape.put(e);
        return tape.length;
    }

    public boolean end(int n) {
        if (n < 0 || n > tape.length) return false;
        tape.length = n;
        return true;
    }

    public int law() {
        tape.begin(LAW_BYTES);
        latestFault = draftLaw.readFrom(tape);
        tape.length = 0;
        if (latestFault != 0) return -1 - tape.place;
        world.enact(draftLaw);
        history.forget();
        return draftLaw.lines;
    }

    public int fault() {
        return latestFault;
    }

    // ---- promises 6 and 7: PEOPLE and MINTS

    public int who(int w, int what) throws NoSuchElementException {
        if (!world.isWho(w)) throw new NoSuchElementException("no such WHO");
        switch (what) {
            case 0: return world.law.begs[w];
            case 1: return world.law.owes[w];
            case 2: return world.now.isDead(w) ? 1 : 0;
            case 3: return world.now.coinsOf(w);
            case 4: return world.now.grainsOf(w);
            case 5: return world.coinsBearing(w);
            default: throw new NoSuchElementException("nothing such of a WHO");
        }
    }

    public int mint(int m, int what) throws NoSuchElementException {
        if (!world.isMint(m)) throw new NoSuchElementException("no such MINT");
        switch (what) {
            case 0: return world.law.loss[m];
            case 1: return world.law.blur[m];
            case 2: return world.now.isClosed(m) ? 1 : 0;
            case 3: return world.strokesAt(m);
            default: throw new NoSuchElementException("nothing such of a MINT");
        }
    }

    // ---- promises 8 to 13: COINS

    public int coin(int w, int grains, int m) {
        if (!world.isAlive(w) || !world.isMint(m)) return NONE;
        if (grains < 1 || grains > MOST_GRAINS) return NONE;
        if (world.obstacle(grains, 0, m) != 0) return NONE;
        if (world.now.coins >= MOST_COINS || world.strokesLeft() < 1) return NONE;
        history.keep(world.now);
        int c = world.now.addCoin(w, grains);
        world.strike(c, w, m, NONE, 0);
        return c;
    }

    public int of(int c, int what) throws NoSuchElementException {
        if (!world.isCoin(c)) throw new NoSuchElementException("no such COIN");
        switch (what) {
            case 0: return world.now.grains[c];
            case 1: return world.now.owner[c];
            case 2: return world.now.layers[c];
            case 3: return world.now.had[c];
            case 4: return world.showsFalse(c) ? 1 : 0;
            default: throw new NoSuchElementException("nothing such of a COIN");
        }
    }

    public int face(int c, int i, int what) {
        if (!world.isCoin(c) || i < 0 || i >= world.now.layers[c]) return NONE;
        switch (what) {
            case 0: return world.whoShown(c, i);
            case 1: return world.now.depthAt(c, i);
            case 2: return world.now.strokeAt(c, i);
            default: return NONE;
        }
    }

    public int value(int w, int c, int what) {
        if (!world.isWho(w) || !world.isCoin(c)) return NONE;
        switch (what) {
            case 0: return world.hundredths(w, world.whoOnTop(c), world.luckNow());
            case 1: return world.worth(w, c, world.luckNow());
            default: return NONE;
        }
    }

    public int luck() {
        return world.luckNow();
    }

    public int bears(int c, int m) {
        if (!world.isCoin(c) || !world.isMint(m)) return NONE;
        int grains = world.now.grains[c];
        int had = world.now.had[c];
        int more = 0;
        while (more < MOST_FACES && world.obstacle(grains, had + more, m) == 0) {
            grains -= world.law.loss[m];
            more++;
        }
        return more;
    }

    // ---- promises 14 to 19: SALES and PAYMENTS

    public int sale(int buyer, int seller, int m, int price) {
        int n = tape.length;
        tape.length = 0;
        if (!world.isWho(buyer) || !world.isWho(seller) || !world.isMint(m)) return NONE;
        if (price < 1 || price > MOST_SALE_PRICE || !tellsUnlikeCoins(n)) return NONE;
        if (!world.canTrade(buyer, seller)) return 1;
        int luck = world.luckNow();
        int wrong = leastWrong(buyer, seller, m, n, luck);
        if (wrong != 0) return wrong;
        int values = 0;
        for (int i = 0; i < n; i++) values += world.worth(seller, tape.at(i), luck);
        if (values < price) return 7;
        if (world.strokesLeft() < n) return NONE;
        history.keep(world.now);
        int k = world.recordSale(buyer, seller, m, price, n, values);
        for (int i = 0; i < n; i++) world.handOver(tape.at(i), seller, m, k);
        return 0;
    }

    private boolean tellsUnlikeCoins(int n) {
        if (n < 1 || n > MOST_COINS) return false;
        long seen = 0;
        for (int i = 0; i < n; i++) {
            int c = tape.at(i);
            if (!world.isCoin(c) || (seen >>> c & 1L) != 0) return false;
            seen |= 1L << c;
        }
        return true;
    }

    private int leastWrong(int buyer, int seller, int m, int n, int luck) {
        int least = 0;
        for (int i = 0; i < n; i++) {
            int wrong = coinWrong(buyer, seller, m, tape.at(i), luck);
            if (wrong != 0 && (least == 0 || wrong < least)) least = wrong;
        }
        return least;
    }

    private int coinWrong(int buyer, int seller, int m, int c, int luck) {
        if (!world.isCoin(c) || world.now.owner[c] != buyer) return 2;
        if (world.worth(seller, c, luck) == 0) return 3;
        return world.obstacle(world.now.grains[c], world.now.had[c], m);
    }

    public int sales() {
        return world.now.sales;
    }

    public int sold(int k, int what) throws NoSuchElementException {
        if (k < 0 || k >= world.now.sales) throw new NoSuchElementException("no such SALE");
        if (what < 0 || what >= SALE_WIDTH) throw new NoSuchElementException("nothing such of a SALE");
        return world.sales.at(k, what);
    }

    public int payment(int buyer, int seller, int m, int price) {
        if (!payable(buyer, seller, m, price)) return NOT_AS_TOLD;
        int grains = cashier.find(world, buyer, seller, m, price);
        if (grains != NONE) tellPaid();
        return grains;
    }

    private boolean payable(int buyer, int seller, int m, int price) {
        return world.canTrade(buyer, seller) && world.isMint(m) && price >= 1 && price <= MOST_PAYMENT_PRICE;
    }

    private void tellPaid() {
        for (int c = 0; c < MOST_COINS; c++) latestPaid[c] = NONE;
        for (int i = 0; i < cashier.looked && i < Cashier.MOST_LOOKED; i++) {
            int c = cashier.lookedCoin[i];
            if (c >= 0 && c < MOST_COINS) latestPaid[c] = cashier.way[i];
        }
    }

    public int paid(int c) {
        return c >= 0 && c < MOST_COINS ? latestPaid[c] : NONE;
    }

    public int buy(int buyer, int seller, int m, int price) {
        if (!payable(buyer, seller, m, price)) return NOT_AS_TOLD;
        int grains = cashier.find(world, buyer, seller, m, price);
        if (grains == NONE) return NONE;
        tellPaid();
        if (world.strokesLeft() < cashier.strokesNeeded()) return NONE;
        history.keep(world.now);
        cashier.settle(world, buyer, seller, m, price);
        return grains;
    }

    // ---- promises 20 to 25: dies, DAYS, robbers, deaths, closing

    public boolean steal(int thief, int victim) {
        if (!world.canTrade(thief, victim) || world.now.dieOf != NONE) return false;
        history.keep(world.now);
        world.now.dieOf = victim;
        world.now.dieBy = thief;
        return true;
    }

    public int forge(int c, int m) {
        if (!world.isCoin(c) || !world.isMint(m)) return NONE;
        if (world.now.dieOf == NONE) return 1;
        if (world.now.owner[c] != world.now.dieBy) return 2;
        int wrong = world.obstacle(world.now.grains[c], world.now.had[c], m);
        if (wrong != 0) return wrong;
        if (world.strokesLeft() < 1) return NONE;
        history.keep(world.now);
        world.strike(c, world.now.dieOf, m, NONE, 1);
        return 0;
    }

    public int day() {
        if (world.now.day >= MOST_DAY) return NONE;
        history.keep(world.now);
        world.now.day++;
        world.now.bringDieBack();
        return world.now.day;
    }

    public boolean rob(int w, int c) {
        if (!world.isAlive(w) || !world.isCoin(c) || world.now.owner[c] == w) return false;
        history.keep(world.now);
        world.now.owner[c] = w;
        return true;
    }

    public int dies(int w, int heir) {
        if (!world.canTrade(w, heir)) return NONE;
        history.keep(world.now);
        if (world.now.dieOf == w || world.now.dieBy == w) world.now.bringDieBack();
        world.now.bury(w);
        return world.now.inherit(w, heir);
    }

    public boolean close(int m) {
        if (!world.isMint(m) || world.now.isClosed(m)) return false;
        history.keep(world.now);
        world.now.shut(m);
        return true;
    }

    // ---- promises 26 to 29: STROKES, foreign COINS, silver

    public int strokes() {
        return world.now.strokes;
    }

    public int stroke(int k, int what) throws NoSuchElementException {
        if (k < 0 || k >= world.now.strokes) throw new NoSuchElementException("no such STROKE");
        if (what < 0 || what > STROKE_WIDTH) throw new NoSuchElementException("nothing such of a STROKE");
        if (what == STROKE_WIDTH) return world.isShown(k) ? 1 : 0;
        return world.strokes.at(k, what);
    }

    public int foreign(int k) {
        int found = 0;
        for (int c = 0; c < world.now.coins && c < MOST_COINS; c++) {
            if (world.now.owner[c] != world.whoOnTop(c)) {
                if (found == k) return c;
                found++;
            }
        }
        return k == NONE ? found : NONE;
    }

    public int silver(int what) {
        int left = world.now.grainsOfAll();
        switch (what) {
            case 0: return world.now.made;
            case 1: return left;
            case 2: return world.now.made - left;
            default: return NONE;
        }
    }

    // ---- promises 30 and 31: ROWS

    public int rows(int c, int grains, int n) {
        if (!world.isCoin(c) || grains < 1 || grains > MOST_GRAINS) return NONE;
        if (n < 1 || n > MOST_ROW_STROKES) return NONE;
        if (RowFinder.tooMany(world.law, n)) return NOT_AS_TOLD;
        return rowFinder.find(world, c, grains, n);
    }

    public int could(int i, int what) {
        if (i < 0 || i >= rowFinder.length || i >= MOST_ROW_STROKES) return NONE;
        switch (what) {
            case 0: return rowFinder.people[i];
            case 1: return rowFinder.mints[i];
            default: return NONE;
        }
    }

    // ---- promises 32 and 33: MARKET, undo

    public int market(int n, int seed) {
        int people = world.law.people;
        int mints = world.law.mints;
        if (n < 1 || n > MOST_MARKET || people < 1 || mints < 1) return NONE;
        history.keep(world.now);
        int x = seed;
        int done = 0;
        for (int i = 0; i < n; i++) {
            x = nextSeed(x);
            int buyer = drawn(x, people);
            x = nextSeed(x);
            int seller = drawn(x, people);
            if (seller == buyer) seller = seller + 1 < people ? seller + 1 : 0;
            x = nextSeed(x);
            int m = drawn(x, mints);
            x = nextSeed(x);
            if (trade(buyer, seller, m, drawn(x, 200) + 1)) done++;
        }
        return done;
    }

    private static int nextSeed(int x) {
        return x * 1103515245 + 12345;
    }

    private static int drawn(int x, int n) {
        return n > 0 ? (x >>> 8) % n : 0;
    }

    private boolean trade(int buyer, int seller, int m, int price) {
        if (!payable(buyer, seller, m, price)) return false;
        if (cashier.find(world, buyer, seller, m, price) == NONE) return false;
        if (world.strokesLeft() < cashier.strokesNeeded()) return false;
        cashier.settle(world, buyer, seller, m, price);
        return true;
    }

    public int undo() {
        return history.takeBack(world.now);
    }

    // ---- promises 34 and 35: SENTENCES

    public int sentence() {
        tape.begin(SENTENCE_BYTES);
        latestFault = draftSentence.readFrom(tape, world.law);
        tape.length = 0;
        if (latestFault != 0) return -1 - tape.place;
        world.sentence.copyFrom(draftSentence);
        return draftSentence.ones;
    }

    public int said(int k) {
        if (world.sentence.ones == 0) return NONE;
        int found = 0;
        for (int c = 0; c < world.now.coins && c < MOST_COINS; c++) {
            if (world.sentence.holds(world, c)) {
                if (found == k) return c;
                found++;
            }
        }
        return k == NONE ? found : NONE;
    }

    // ---- promises 36 to 38: images, count

    public boolean image(int k) {
        if (k < 0 || k >= images.length) return false;
        if (images[k] == null) images[k] = new World();
        images[k].copyFrom(world);
        return true;
    }

    public boolean restore(int k) {
        if (k < 0 || k >= images.length || images[k] == null) return false;
        world.copyFrom(images[k]);
        history.forget();
        return true;
    }

    public int count(int what) {
        switch (what) {
            case 0: return world.law.people;
            case 1: return world.law.mints;
            case 2: return world.law.takesTold;
            case 3: return world.law.settings[Law.LUCKY];
            case 4: return world.law.settings[Law.DEAD];
            case 5: return world.law.settings[Law.THIN];
            case 6: return world.law.settings[Law.FACES];
            case 7: return world.now.coins;
            case 8: return world.now.day;
            case 9: return world.now.dieOf;
            case 10: return world.now.dieBy;
            case 11: return tape.length;
            default: return NONE;
        }
    }

    /** The tape, and its TOKENS one at a time: the one it stands at is told by kind, place, number and code. */
    private static final class Tape {
        static final int END = 0;
        static final int NO_TOKEN = 1;
        static final int NUMBER = 2;
        static final int NAME = 3;
        static final int SEMICOLON = 4;
        static final int LESS = 5;
        static final int EQUAL = 6;
        static final int GREATER = 7;
        static final int OPEN = 8;
        static final int SHUT = 9;
        static final int WHO = 10;
        static final int BEGS = 11;
        static final int OWES = 12;
        static final int MINT = 13;
        static final int TAKES = 14;
        static final int LUCKY = 15;
        static final int OR = 19;
        static final int AND = 20;
        static final int NOT = 21;
        static final int BEARS = 22;
        static final int SHOWS = 23;
        static final int HELD = 24;
        static final int FALSE = 25;
        static final int GRAINS = 26;
        static final int LAYERS = 27;
        static final int STRUCK = 28;

        private static final int LETTERS = 6;
        private static final int DIGITS = 4;
        // In the order of the kinds from WHO on, a blank behind each.
        private static final String TOLD =
            "who begs owes mint takes lucky dead thin faces or and not bears shows held false grains layers struck ";

        private final int[] bytes;
        private int length;
        private int most;
        private int next;
        private int kind;
        private int place;
        private int number;
        private int code;

        Tape() {
            bytes = new int[TAPE_BYTES];
        }

        void put(int fourBytes) {
            for (int shift = 24; shift >= 0; shift -= 8) {
                if (length < TAPE_BYTES) {
                    bytes[length] = fourBytes >>> shift & 255;
                    length++;
                }
            }
        }

        int at(int i) {
            return i >= 0 && i < TAPE_BYTES ? bytes[i] : NONE;
        }

        /** The text may have so many bytes; TOKENS that begin ahead of that are read whole. */
        void begin(int mostBytes) {
            most = mostBytes;
            next = 0;
        }

        void advance() {
            while (next < length && isBlank(at(next))) next++;
            place = next;
            if (next >= most && length > most) {
                place = most;
                kind = NO_TOKEN;
            } else if (next >= length) {
                kind = END;
            } else if (isLetter(at(next)) || isDigit(at(next))) {
                kind = readRun();
                if (kind == NAME) kind = wordKind(next - place);
            } else {
                kind = signKind(at(next));
                next++;
            }
        }

        private static boolean isBlank(int sign) {
            return sign == ' ' || sign == '\n';
        }

        private static boolean isLetter(int sign) {
            return sign >= 'a' && sign <= 'z';
        }

        private static boolean isDigit(int sign) {
            return sign >= '0' && sign <= '9';
        }

        private static int signKind(int sign) {
            switch (sign) {
                case ';': return SEMICOLON;
                case '<': return LESS;
                case '=': return EQUAL;
                case '>': return GREATER;
                case '(': return OPEN;
                case ')': return SHUT;
                default: return NO_TOKEN;
            }
        }

        private int readRun() {
            int letters = 0;
            int digits = 0;
            number = 0;
            code = 0;
            boolean more = true;
            while (more && next < length && next < TAPE_BYTES) {
                int sign = bytes[next];
                if (isDigit(sign)) {
                    number = number * 10 + sign - '0';
                    digits++;
                } else if (isLetter(sign)) {
                    // Six letters of five bits fit an int, so a NAME is kept as one number.
                    code = code * 32 + sign - 'a' + 1;
                    letters++;
                } else {
                    more = false;
                }
                if (more) next++;
            }
            if (letters == 0 && digits <= DIGITS) return NUMBER;
            return digits == 0 && letters <= LETTERS ? NAME : NO_TOKEN;
        }

        /** The kind of a told WORD that is like the one just read; NAME for another one. */
        private int wordKind(int letters) {
            int word = WHO;
            int like = 0;
            for (int i = 0; i < TOLD.length(); i++) {
                char sign = TOLD.charAt(i);
                if (sign == ' ') {
                    if (like == letters) return word;
                    word++;
                    like = 0;
                } else if (like != NONE && like < letters && place + like < TAPE_BYTES && bytes[place + like] == sign) {
                    like++;
                } else {
                    like = NONE;
                }
            }
            return NAME;
        }
    }

    /** A LAW; NAMES are kept as the numbers that the Tape makes of them. */
    private static final class Law {
        static final int LUCKY = 0;
        static final int DEAD = 1;
        static final int THIN = 2;
        static final int FACES = 3;

        private static final int SETTINGS = 4;
        private static final int[] WITHOUT = {0, 50, 50, 5};
        private static final int[] LEAST = {0, 0, 1, 1};
        private static final int[] MOST = {100, 200, 999, 9};

        private static final int MOST_LOSS = 50;
        private static final int MOST_BLUR = 9;
        private static final int MOST_TAKES = 200;
        private static final int TAKES_WITHOUT = 100;

        private int lines;
        private int people;
        private int mints;
        private int takesTold;
        private final int[] whoName;
        private final int[] begs;
        private final int[] owes;
        private final int[] mintName;
        private final int[] loss;
        private final int[] blur;
        private final int[] takes;
        private final int[] settings;
        private int settingsTold;

        Law() {
            whoName = new int[MOST_PEOPLE];
            begs = new int[MOST_PEOPLE];
            owes = new int[MOST_PEOPLE];
            mintName = new int[MOST_MINTS];
            loss = new int[MOST_MINTS];
            blur = new int[MOST_MINTS];
            takes = new int[MOST_PEOPLE * MOST_PEOPLE];
            settings = new int[SETTINGS];
            clear();
        }

        private void clear() {
            lines = 0;
            people = 0;
            mints = 0;
            takesTold = 0;
            settingsTold = 0;
            for (int i = 0; i < takes.length; i++) takes[i] = NONE;
            for (int i = 0; i < SETTINGS; i++) settings[i] = WITHOUT[i];
        }

        void copyFrom(Law other) {
            lines = other.lines;
            people = other.people;
            mints = other.mints;
            takesTold = other.takesTold;
            settingsTold = other.settingsTold;
            System.arraycopy(other.whoName, 0, whoName, 0, MOST_PEOPLE);
            System.arraycopy(other.begs, 0, begs, 0, MOST_PEOPLE);
            System.arraycopy(other.owes, 0, owes, 0, MOST_PEOPLE);
            System.arraycopy(other.mintName, 0, mintName, 0, MOST_MINTS);
            System.arraycopy(other.loss, 0, loss, 0, MOST_MINTS);
            System.arraycopy(other.blur, 0, blur, 0, MOST_MINTS);
            System.arraycopy(other.takes, 0, takes, 0, takes.length);
            System.arraycopy(other.settings, 0, settings, 0, SETTINGS);
        }

        /** The kind of the first FAULT, the tape standing at its place; 0 without one. */
        int readFrom(Tape in) {
            clear();
            in.advance();
            int wrong = 0;
            while (lines < LAW_BYTES && wrong == 0 && in.kind != Tape.END) {
                wrong = readLine(in);
                if (wrong == 0 && in.kind != Tape.SEMICOLON) wrong = FAULT_TOKEN;
                if (wrong == 0) {
                    in.advance();
                    lines++;
                }
            }
            return wrong;
        }

        private int readLine(Tape in) {
            switch (in.kind) {
                case Tape.WHO: return readWho(in);
                case Tape.MINT: return readMint(in);
                case Tape.TAKES: return readTakes(in);
                default: return readSetting(in);
            }
        }

        private int readWho(Tape in) {
            if (people >= MOST_PEOPLE) return FAULT_MANY;
            in.advance();
            int wrong = newNameFault(in);
            if (wrong != 0) return wrong;
            whoName[people] = in.code;
            in.advance();
            begs[people] = in.kind == Tape.BEGS ? 1 : 0;
            if (begs[people] == 1) in.advance();
            owes[people] = in.kind == Tape.OWES ? 1 : 0;
            if (owes[people] == 1) in.advance();
            people++;
            return 0;
        }

        private int readMint(Tape in) {
            if (mints >= MOST_MINTS) return FAULT_MANY;
            in.advance();
            int wrong = newNameFault(in);
            if (wrong != 0) return wrong;
            mintName[mints] = in.code;
            in.advance();
            wrong = numberFault(in, 1, MOST_LOSS);
            if (wrong != 0) return wrong;
            loss[mints] = in.number;
            in.advance();
            wrong = numberFault(in, 1, MOST_BLUR);
            if (wrong != 0) return wrong;
            blur[mints] = in.number;
            in.advance();
            mints++;
            return 0;
        }

        private int readTakes(Tape in) {
            in.advance();
            int wrong = toldWhoFault(in);
            if (wrong != 0) return wrong;
            int taker = findWho(in.code);
            in.advance();
            wrong = toldWhoFault(in);
            if (wrong != 0) return wrong;
            int pair = taker * MOST_PEOPLE + findWho(in.code);
            if (pair < 0 || pair >= takes.length || takes[pair] != NONE) return FAULT_NAME;
            in.advance();
            wrong = numberFault(in, 0, MOST_TAKES);
            if (wrong != 0) return wrong;
            takes[pair] = in.number;
            takesTold++;
            in.advance();
            return 0;
        }

        private int readSetting(Tape in) {
            int setting = in.kind - Tape.LUCKY;
            if (setting < 0 || setting >= SETTINGS) return FAULT_TOKEN;
            if ((settingsTold >> setting & 1) != 0) return FAULT_NAME;
            settingsTold |= 1 << setting;
            in.advance();
            int wrong = numberFault(in, LEAST[setting], MOST[setting]);
            if (wrong != 0) return wrong;
            settings[setting] = in.number;
            in.advance();
            return 0;
        }

        private int newNameFault(Tape in) {
            if (in.kind != Tape.NAME) return FAULT_TOKEN;
            return findWho(in.code) != NONE || isMintName(in.code) ? FAULT_NAME : 0;
        }

        int toldWhoFault(Tape in) {
            if (in.kind != Tape.NAME) return FAULT_TOKEN;
            return findWho(in.code) == NONE ? FAULT_NAME : 0;
        }

        private static int numberFault(Tape in, int least, int most) {
            if (in.kind != Tape.NUMBER) return FAULT_TOKEN;
            return in.number < least || in.number > most ? FAULT_NUMBER : 0;
        }

        int findWho(int code) {
            for (int w = 0; w < people && w < MOST_PEOPLE; w++) {
                if (whoName[w] == code) return w;
            }
            return NONE;
        }

        private boolean isMintName(int code) {
            for (int m = 0; m < mints && m < MOST_MINTS; m++) {
                if (mintName[m] == code) return true;
            }
            return false;
        }

        int takenAt(int w, int other) {
            int pair = w * MOST_PEOPLE + other;
            if (pair < 0 || pair >= takes.length || takes[pair] == NONE) return TAKES_WITHOUT;
            return takes[pair];
        }
    }

    /** Rows of numbers that are written behind one another; how many count is kept by the Coinage. */
    private static final class Table {
        private final int width;
        private final int[] cells;

        Table(int rows, int width) {
            this.width = width;
            cells = new int[rows * width];
        }

        int at(int row, int column) {
            int i = row * width + column;
            return row >= 0 && column >= 0 && column < width && i < cells.length ? cells[i] : NONE;
        }

        void put(int row, int column, int number) {
            int i = row * width + column;
            if (row >= 0 && column >= 0 && column < width && i < cells.length) cells[i] = number;
        }

        void copyFrom(Table other, int rows) {
            int n = Math.min(rows * width, Math.min(cells.length, other.cells.length));
            if (n > 0) System.arraycopy(other.cells, 0, cells, 0, n);
        }
    }

    /**
     * What ACTS change. SALES and STROKES are only ever written behind the others, so how many there are
     * is enough to take an ACT back.
     */
    private static final class Coinage {
        private int coins;
        private int strokes;
        private int sales;
        private int day;
        private int dead;
        private int closed;
        private int dieOf;
        private int dieBy;
        private int made;
        private final int[] grains;
        private final int[] owner;
        private final int[] had;
        private final int[] layers;
        // Of each COIN nine places, the FACE on top first.
        private final int[] faceStroke;
        private final int[] faceDepth;

        Coinage() {
            grains = new int[MOST_COINS];
            owner = new int[MOST_COINS];
            had = new int[MOST_COINS];
            layers = new int[MOST_COINS];
            faceStroke = new int[MOST_COINS * MOST_FACES];
            faceDepth = new int[MOST_COINS * MOST_FACES];
            clear();
        }

        private void clear() {
            coins = 0;
            strokes = 0;
            sales = 0;
            day = 0;
            dead = 0;
            closed = 0;
            made = 0;
            bringDieBack();
        }

        void copyFrom(Coinage other) {
            coins = other.coins;
            strokes = other.strokes;
            sales = other.sales;
            day = other.day;
            dead = other.dead;
            closed = other.closed;
            dieOf = other.dieOf;
            dieBy = other.dieBy;
            made = other.made;
            System.arraycopy(other.grains, 0, grains, 0, MOST_COINS);
            System.arraycopy(other.owner, 0, owner, 0, MOST_COINS);
            System.arraycopy(other.had, 0, had, 0, MOST_COINS);
            System.arraycopy(other.layers, 0, layers, 0, MOST_COINS);
            System.arraycopy(other.faceStroke, 0, faceStroke, 0, faceStroke.length);
            System.arraycopy(other.faceDepth, 0, faceDepth, 0, faceDepth.length);
        }

        private void bringDieBack() {
            dieOf = NONE;
            dieBy = NONE;
        }

        boolean isDead(int w) {
            return (dead >> w & 1) != 0;
        }

        void bury(int w) {
            dead |= 1 << w;
        }

        boolean isClosed(int m) {
            return (closed >> m & 1) != 0;
        }

        void shut(int m) {
            closed |= 1 << m;
        }

        int addCoin(int w, int weight) {
            int c = coins;
            if (c >= MOST_COINS) return NONE;
            grains[c] = weight;
            owner[c] = w;
            had[c] = 0;
            layers[c] = 0;
            made += weight;
            coins++;
            return c;
        }

        int coinsOf(int w) {
            int n = 0;
            for (int c = 0; c < coins && c < MOST_COINS; c++) {
                if (owner[c] == w) n++;
            }
            return n;
        }

        int grainsOf(int w) {
            int n = 0;
            for (int c = 0; c < coins && c < MOST_COINS; c++) {
                if (owner[c] == w) n += grains[c];
            }
            return n;
        }

        int grainsOfAll() {
            int n = 0;
            for (int c = 0; c < coins && c < MOST_COINS; c++) n += grains[c];
            return n;
        }

        int inherit(int w, int heir) {
            int n = 0;
            for (int c = 0; c < coins && c < MOST_COINS; c++) {
                if (owner[c] == w) {
                    owner[c] = heir;
                    n++;
                }
            }
            return n;
        }

        /** The number of the STROKE of FACE i, NONE if the COIN has no such FACE. */
        int strokeAt(int c, int i) {
            return hasFace(c, i) ? faceStroke[c * MOST_FACES + i] : NONE;
        }

        int depthAt(int c, int i) {
            return hasFace(c, i) ? faceDepth[c * MOST_FACES + i] : NONE;
        }

        private boolean hasFace(int c, int i) {
            return c >= 0 && c < coins && c < MOST_COINS && i >= 0 && i < layers[c] && i < MOST_FACES;
        }

        void cover(int c, int stroke, int loss, int blur) {
            if (c < 0 || c >= coins || c >= MOST_COINS) return;
            grains[c] -= loss;
            had[c]++;
            int top = c * MOST_FACES;
            int left = facesLeft(c, blur);
            for (int i = left; i > 0; i--) {
                faceStroke[top + i] = faceStroke[top + i - 1];
                faceDepth[top + i] = faceDepth[top + i - 1] - blur;
            }
            faceStroke[top] = stroke;
            faceDepth[top] = FULL_DEPTH;
            layers[c] = left + 1;
        }

        // The lower a FACE, the less its DEPTH: those that are left stand on top together.
        private int facesLeft(int c, int blur) {
            int left = 0;
            int top = c * MOST_FACES;
            while (left < MOST_FACES - 1 && left < layers[c] && faceDepth[top + left] > blur) left++;
            return left;
        }
    }

    /** The LAW and all that stands by it: what an image keeps. */
    private static final class World {
        private final Law law;
        private final Coinage now;
        private final Table strokes;
        private final Table sales;
        private final Sentence sentence;

        World() {
            law = new Law();
            now = new Coinage();
            strokes = new Table(MOST_STROKES, STROKE_WIDTH);
            sales = new Table(MOST_STROKES, SALE_WIDTH);
            sentence = new Sentence();
        }

        void copyFrom(World other) {
            law.copyFrom(other.law);
            now.copyFrom(other.now);
            strokes.copyFrom(other.strokes, other.now.strokes);
            sales.copyFrom(other.sales, other.now.sales);
            sentence.copyFrom(other.sentence);
        }

        void enact(Law other) {
            law.copyFrom(other);
            now.clear();
            sentence.clear();
        }

        boolean isWho(int w) {
            return w >= 0 && w < law.people && w < MOST_PEOPLE;
        }

        boolean isAlive(int w) {
            return isWho(w) && !now.isDead(w);
        }

        boolean canTrade(int one, int other) {
            return isAlive(one) && isAlive(other) && one != other;
        }

        boolean isMint(int m) {
            return m >= 0 && m < law.mints && m < MOST_MINTS;
        }

        boolean isCoin(int c) {
            return c >= 0 && c < now.coins && c < MOST_COINS;
        }

        int strokesLeft() {
            return MOST_STROKES - now.strokes;
        }

        int whoOnTop(int c) {
            return isCoin(c) ? strokes.at(now.faceStroke[c * MOST_FACES], STROKE_WHO) : NONE;
        }

        int whoShown(int c, int i) {
            return strokes.at(now.strokeAt(c, i), STROKE_WHO);
        }

        boolean showsWho(int c, int w) {
            for (int i = 0; i < MOST_FACES && now.strokeAt(c, i) != NONE; i++) {
                if (whoShown(c, i) == w) return true;
            }
            return false;
        }

        boolean showsFalse(int c) {
            for (int i = 0; i < MOST_FACES && now.strokeAt(c, i) != NONE; i++) {
                if (strokes.at(now.strokeAt(c, i), STROKE_FALSE) == 1) return true;
            }
            return false;
        }

        boolean isShown(int k) {
            int c = strokes.at(k, STROKE_COIN);
            for (int i = 0; i < MOST_FACES && now.strokeAt(c, i) != NONE; i++) {
                if (now.strokeAt(c, i) == k) return true;
            }
            return false;
        }

        int coinsBearing(int w) {
            int n = 0;
            for (int c = 0; c < now.coins; c++) {
                if (whoOnTop(c) == w) n++;
            }
            return n;
        }

        int strokesAt(int m) {
            int n = 0;
            for (int k = 0; k < now.strokes; k++) {
                if (strokes.at(k, STROKE_MINT) == m) n++;
            }
            return n;
        }

        int luckNow() {
            int left = law.settings[Law.LUCKY];
            for (int c = 0; c < now.coins; c++) {
                int top = whoOnTop(c);
                if (isWho(top) && law.begs[top] == 1) left--;
            }
            return Math.max(0, left);
        }

        /** HUNDREDTHS at which a WHO takes a COIN with some WHO on top. */
        int hundredths(int w, int top, int luck) {
            if (top == w) return 100;
            if (!isWho(top) || law.owes[top] == 1) return 0;
            int taken = now.isDead(top) ? law.settings[Law.DEAD] : law.takenAt(w, top);
            return law.begs[top] == 1 ? taken + luck : taken;
        }

        int worth(int w, int c, int luck) {
            if (!isCoin(c)) return 0;
            return now.grains[c] * hundredths(w, whoOnTop(c), luck) / 100;
        }

        /** Why a STROKE at a MINT can't be: 4, 5, 6; 0 if it can. */
        int obstacle(int grains, int had, int m) {
            if (!isMint(m) || now.isClosed(m)) return 4;
            if (grains - law.loss[m] < law.settings[Law.THIN]) return 5;
            return had >= law.settings[Law.FACES] ? 6 : 0;
        }

        void strike(int c, int w, int m, int sale, int lie) {
            if (!isMint(m) || strokesLeft() < 1) return;
            int k = now.strokes;
            strokes.put(k, STROKE_COIN, c);
            strokes.put(k, STROKE_WHO, w);
            strokes.put(k, STROKE_MINT, m);
            strokes.put(k, STROKE_DAY, now.day);
            strokes.put(k, STROKE_SALE, sale);
            strokes.put(k, STROKE_FALSE, lie);
            now.strokes++;
            now.cover(c, k, law.loss[m], law.blur[m]);
        }

        int recordSale(int buyer, int seller, int m, int price, int given, int values) {
            int k = now.sales;
            if (k >= MOST_STROKES) return NONE;
            sales.put(k, 0, buyer);
            sales.put(k, 1, seller);
            sales.put(k, 2, m);
            sales.put(k, 3, price);
            sales.put(k, 4, now.day);
            sales.put(k, 5, given);
            sales.put(k, 6, values);
            now.sales++;
            return k;
        }

        void handOver(int c, int seller, int m, int sale) {
            if (!isCoin(c)) return;
            strike(c, seller, m, sale, 0);
            now.owner[c] = seller;
        }
    }

    /** The latest ACTS: how all stood ahead of each. */
    private static final class History {
        private static final int MOST_KEPT = 6;

        private final Coinage[] kept;
        private int oldest;
        private int size;

        History() {
            kept = new Coinage[MOST_KEPT];
        }

        void keep(Coinage now) {
            int i = (oldest + size) % MOST_KEPT;
            if (kept[i] == null) kept[i] = new Coinage();
            kept[i].copyFrom(now);
            if (size < MOST_KEPT) size++;
            else oldest = (oldest + 1) % MOST_KEPT;
        }

        /** How many more can be undone; NONE if none was. */
        int takeBack(Coinage now) {
            if (size < 1) return NONE;
            size--;
            int i = (oldest + size) % MOST_KEPT;
            if (kept[i] != null) now.copyFrom(kept[i]);
            return size;
        }

        void forget() {
            size = 0;
        }
    }

    /** Finds the PAYMENT and does it. */
    private static final class Cashier {
        static final int MOST_LOOKED = 12;
        private static final int LEFT = 0;
        private static final int GIVEN = 1;
        private static final int STRUCK = 2;
        private static final int WAYS = STRUCK + MOST_MINTS;

        private int looked;
        private final int[] lookedCoin;
        private final int[] way;
        // The VALUE for the seller by each way, 0 if that way can't be.
        private final int[] wayWorth;

        // Of the COINS looked at, those that can be given at all, and the most that each can be worth.
        private int usable;
        private final int[] usableAt;
        private final int[] usableGrains;
        private final int[] usableWorth;
        // The most that those from each one on can be worth together.
        private final int[] worthFrom;

        private int cheapestGrains;
        private int cheapestNumber;
        private int given;
        private int restruck;
        private int values;

        Cashier() {
            lookedCoin = new int[MOST_LOOKED];
            way = new int[MOST_LOOKED];
            wayWorth = new int[MOST_LOOKED * WAYS];
            usableAt = new int[MOST_LOOKED];
            usableGrains = new int[MOST_LOOKED];
            usableWorth = new int[MOST_LOOKED];
            worthFrom = new int[MOST_LOOKED];
        }

        /** The GRAINS of the PAYMENT, which then stands in lookedCoin and way; NONE if there is none. */
        int find(World world, int buyer, int seller, int m, int price) {
            lookAt(world, buyer);
            usable = 0;
            int luck = world.luckNow();
            int restruckAt = world.hundredths(seller, buyer, luck);
            for (int i = 0; i < looked; i++) {
                way[i] = LEFT;
                appraiseGiven(world, i, seller, m, luck);
                appraiseStruck(world, i, m, restruckAt);
                noteUsable(world, i);
            }
            sumWorth();
            cheapestGrains = NONE;
            seekCheapest(0, 0, 0, price);
            if (cheapestGrains != NONE) chooseWays(price);
            return cheapestGrains;
        }

        private void lookAt(World world, int buyer) {
            looked = 0;
            for (int c = 0; c < world.now.coins && looked < MOST_LOOKED; c++) {
                if (world.isCoin(c) && world.now.owner[c] == buyer) {
                    lookedCoin[looked] = c;
                    looked++;
                }
            }
        }

        private void appraiseGiven(World world, int i, int seller, int m, int luck) {
            int c = lookedCoin[i];
            boolean can = world.obstacle(world.now.grains[c], world.now.had[c], m) == 0;
            wayWorth[i * WAYS + GIVEN] = can ? world.worth(seller, c, luck) : 0;
        }

        private void appraiseStruck(World world, int i, int m, int restruckAt) {
            int c = lookedCoin[i];
            int had = world.now.had[c];
            for (int j = 0; j < MOST_MINTS; j++) {
                int worth = 0;
                if (world.obstacle(world.now.grains[c], had, j) == 0) {
                    int grains = world.now.grains[c] - world.law.loss[j];
                    if (world.obstacle(grains, had + 1, m) == 0) worth = grains * restruckAt / 100;
                }
                wayWorth[i * WAYS + STRUCK + j] = worth;
            }
        }

        private void noteUsable(World world, int i) {
            int most = 0;
            for (int w = GIVEN; w < WAYS; w++) most = Math.max(most, wayWorth[i * WAYS + w]);
            if (most > 0 && usable < MOST_LOOKED) {
                usableAt[usable] = i;
                usableGrains[usable] = world.now.grains[lookedCoin[i]];
                usableWorth[usable] = most;
                usable++;
            }
        }

        private void sumWorth() {
            int worth = 0;
            for (int u = usable - 1; u >= 0; u--) {
                worth += usableWorth[u];
                worthFrom[u] = worth;
            }
        }

        // What a COIN is given for does not change its GRAINS: which COINS are given is sought first, each at its most.
        private void seekCheapest(int u, int grains, int number, int worthDue) {
            if (worthDue <= 0) {
                noteCheapest(grains, number);
                return;
            }
            if (u >= usable || u >= MOST_LOOKED || worthFrom[u] < worthDue) return;
            if (cheapestGrains != NONE && grains >= cheapestGrains) return;
            seekCheapest(u + 1, grains + usableGrains[u], number + 1, worthDue - usableWorth[u]);
            seekCheapest(u + 1, grains, number, worthDue);
        }

        private void noteCheapest(int grains, int number) {
            boolean cheaper = cheapestGrains == NONE || grains < cheapestGrains
                || grains == cheapestGrains && number < cheapestNumber;
            if (cheaper) {
                cheapestGrains = grains;
                cheapestNumber = number;
            }
        }

        // COIN by COIN the first way with which the later ones can still make up the GRAINS, how many are given, and
        // the VALUE: what is cheapest may be so in several ways, and the first of them is due.
        private void chooseWays(int price) {
            int grainsDue = cheapestGrains;
            int worthDue = price;
            given = 0;
            restruck = 0;
            for (int u = 0; u < usable && u < MOST_LOOKED; u++) {
                int w = firstWay(u, grainsDue, cheapestNumber - given, worthDue);
                way[usableAt[u]] = w;
                if (w != LEFT) {
                    grainsDue -= usableGrains[u];
                    worthDue -= wayWorth[usableAt[u] * WAYS + w];
                    given++;
                }
                if (w >= STRUCK) restruck++;
            }
            values = price - worthDue;
        }

        private int firstWay(int u, int grains, int number, int worthDue) {
            if (canMakeUp(u + 1, grains, number, worthDue)) return LEFT;
            for (int w = GIVEN; w < WAYS; w++) {
                int worth = wayWorth[usableAt[u] * WAYS + w];
                if (worth > 0 && canMakeUp(u + 1, grains - usableGrains[u], number - 1, worthDue - worth)) return w;
            }
            return LEFT;
        }

        private boolean canMakeUp(int u, int grains, int number, int worthDue) {
            if (number <= 0) return number == 0 && grains == 0 && worthDue <= 0;
            if (u + number > usable || u >= MOST_LOOKED || grains <= 0 || worthFrom[u] < worthDue) return false;
            return canMakeUp(u + 1, grains - usableGrains[u], number - 1, worthDue - usableWorth[u])
                || canMakeUp(u + 1, grains, number, worthDue);
        }

        int strokesNeeded() {
            return given + restruck;
        }

        void settle(World world, int buyer, int seller, int m, int price) {
            for (int i = 0; i < looked && i < MOST_LOOKED; i++) {
                if (way[i] >= STRUCK) world.strike(lookedCoin[i], buyer, way[i] - STRUCK, NONE, 0);
            }
            int k = world.recordSale(buyer, seller, m, price, given, values);
            for (int i = 0; i < looked && i < MOST_LOOKED; i++) {
                if (way[i] != LEFT) world.handOver(lookedCoin[i], seller, m, k);
            }
        }
    }

    /** Finds the ROWS of STROKES that make a COIN like one there is, and who and what MINT can be where in them. */
    private static final class RowFinder {
        private int length;
        private final int[] people;
        private final int[] mints;
        private final int[] row;

        RowFinder() {
            people = new int[MOST_ROW_STROKES];
            mints = new int[MOST_ROW_STROKES];
            row = new int[MOST_ROW_STROKES];
        }

        static boolean tooMany(Law law, int n) {
            int rows = 1;
            for (int i = 0; i < n && rows <= MOST_ROWS; i++) rows *= law.people * law.mints;
            return rows > MOST_ROWS;
        }

        /** It goes through the rows of MINTS alone: FACES that are gone can be anybody's, the others are known. */
        int find(World world, int c, int grains, int n) {
            length = Math.min(n, MOST_ROW_STROKES);
            for (int i = 0; i < length; i++) {
                people[i] = 0;
                mints[i] = 0;
                row[i] = 0;
            }
            if (length > world.law.settings[Law.FACES]) return 0;
            int found = 0;
            boolean more = true;
            for (int turn = 0; turn < MOST_ROWS && more; turn++) {
                if (fits(world, c, grains)) found += note(world, c);
                more = turnRow(world.law.mints);
            }
            return found;
        }

        private boolean turnRow(int mintsThere) {
            for (int i = 0; i < length; i++) {
                row[i]++;
                if (row[i] < mintsThere) return true;
                row[i] = 0;
            }
            return false;
        }

        private boolean fits(World world, int c, int grains) {
            int left = grains;
            for (int i = 0; i < length; i++) {
                if (!world.isMint(row[i])) return false;
                left -= world.law.loss[row[i]];
                if (left < world.law.settings[Law.THIN]) return false;
            }
            return left == world.now.grains[c] && depthsFit(world, c);
        }

        private boolean depthsFit(World world, int c) {
            int depth = FULL_DEPTH;
            int shown = 0;
            for (int i = length - 1; i >= 0 && depth > 0; i--) {
                if (world.now.depthAt(c, shown) != depth) return false;
                shown++;
                depth -= world.law.blur[row[i]];
            }
            return shown == world.now.layers[c];
        }

        /** How many ROWS have this row of MINTS. */
        private int note(World world, int c) {
            int rows = 1;
            for (int i = 0; i < length; i++) {
                int known = world.whoShown(c, length - 1 - i);
                mints[i] |= 1 << row[i];
                if (known == NONE) {
                    people[i] |= (1 << world.law.people) - 1;
                    rows *= world.law.people;
                } else {
                    people[i] |= 1 << known;
                }
            }
            return rows;
        }
    }

    /** A SENTENCE, kept such that what is joined stands ahead of what joins it. */
    private static final class Sentence {
        private static final int MOST_ONES = 20;
        private static final int MOST_WITHIN = 8;
        private static final int MOST_STEPS = 2 * MOST_ONES;

        private int ones;
        private int steps;
        private final int[] step;
        private final int[] sign;
        private final int[] number;

        Sentence() {
            step = new int[MOST_STEPS];
            sign = new int[MOST_STEPS];
            number = new int[MOST_STEPS];
        }

        private void clear() {
            ones = 0;
            steps = 0;
        }

        void copyFrom(Sentence other) {
            ones = other.ones;
            steps = other.steps;
            System.arraycopy(other.step, 0, step, 0, MOST_STEPS);
            System.arraycopy(other.sign, 0, sign, 0, MOST_STEPS);
            System.arraycopy(other.number, 0, number, 0, MOST_STEPS);
        }

        private void add(int kind, int itsSign, int itsNumber) {
            if (steps >= MOST_STEPS) return;
            step[steps] = kind;
            sign[steps] = itsSign;
            number[steps] = itsNumber;
            steps++;
        }

        /** The kind of the first FAULT, the tape standing at its place; 0 without one. */
        int readFrom(Tape in, Law law) {
            clear();
            in.advance();
            int wrong = readCond(in, law, 1);
            return wrong == 0 && in.kind != Tape.END ? FAULT_TOKEN : wrong;
        }

        private int readCond(Tape in, Law law, int depth) {
            int wrong = readAll(in, law, depth);
            for (int i = 0; i < MOST_ONES && wrong == 0 && in.kind == Tape.OR; i++) {
                in.advance();
                wrong = readAll(in, law, depth);
                add(Tape.OR, 0, 0);
            }
            return wrong;
        }

        private int readAll(Tape in, Law law, int depth) {
            int wrong = readOne(in, law, depth);
            for (int i = 0; i < MOST_ONES && wrong == 0 && in.kind == Tape.AND; i++) {
                in.advance();
                wrong = readOne(in, law, depth);
                add(Tape.AND, 0, 0);
            }
            return wrong;
        }

        private int readOne(Tape in, Law law, int depth) {
            int kind = in.kind;
            if (kind != Tape.OPEN && (kind < Tape.NOT || kind > Tape.STRUCK)) return FAULT_TOKEN;
            if (ones >= MOST_ONES || depth > MOST_WITHIN) return FAULT_MANY;
            ones++;
            in.advance();
            switch (kind) {
                case Tape.NOT: return readNot(in, law, depth);
                case Tape.OPEN: return readBracket(in, law, depth);
                case Tape.FALSE: add(kind, 0, 0); return 0;
                case Tape.BEARS:
                case Tape.SHOWS:
                case Tape.HELD: return readOfWho(in, law, kind);
                default: return readMeasure(in, kind);
            }
        }

        private int readNot(Tape in, Law law, int depth) {
            int wrong = readOne(in, law, depth + 1);
            add(Tape.NOT, 0, 0);
            return wrong;
        }

        private int readBracket(Tape in, Law law, int depth) {
            int wrong = readCond(in, law, depth + 1);
            if (wrong != 0) return wrong;
            if (in.kind != Tape.SHUT) return FAULT_TOKEN;
            in.advance();
            return 0;
        }

        private int readOfWho(Tape in, Law law, int kind) {
            int wrong = law.toldWhoFault(in);
            if (wrong != 0) return wrong;
            add(kind, 0, law.findWho(in.code));
            in.advance();
            return 0;
        }

        private int readMeasure(Tape in, int kind) {
            int itsSign = in.kind;
            if (itsSign != Tape.LESS && itsSign != Tape.EQUAL && itsSign != Tape.GREATER) return FAULT_TOKEN;
            in.advance();
            if (in.kind != Tape.NUMBER) return FAULT_TOKEN;
            add(kind, itsSign, in.number);
            in.advance();
            return 0;
        }

        /** Whether it may be said of a COIN. */
        boolean holds(World world, int c) {
            // What is found stands in the bits of one int, the latest lowest: 20 ONES need no more.
            int found = 0;
            for (int i = 0; i < steps && i < MOST_STEPS; i++) {
                int latest = found & 1;
                int second = found >>> 1 & 1;
                switch (step[i]) {
                    case Tape.NOT: found ^= 1; break;
                    case Tape.AND: found = found >>> 2 << 1 | latest & second; break;
                    case Tape.OR: found = found >>> 2 << 1 | latest | second; break;
                    default: found = found << 1 | (stepHolds(world, c, i) ? 1 : 0);
                }
            }
            return (found & 1) != 0;
        }

        private boolean stepHolds(World world, int c, int i) {
            switch (step[i]) {
                case Tape.BEARS: return world.whoOnTop(c) == number[i];
                case Tape.SHOWS: return world.showsWho(c, number[i]);
                case Tape.HELD: return world.now.owner[c] == number[i];
                case Tape.FALSE: return world.showsFalse(c);
                case Tape.GRAINS: return compares(world.now.grains[c], i);
                case Tape.LAYERS: return compares(world.now.layers[c], i);
                default: return compares(world.now.had[c], i);
            }
        }

        private boolean compares(int measured, int i) {
            if (sign[i] == Tape.LESS) return measured < number[i];
            if (sign[i] == Tape.GREATER) return measured > number[i];
            return measured == number[i];
        }
    }
}
