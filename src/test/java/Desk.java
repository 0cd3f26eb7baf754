import java.util.NoSuchElementException;

/** What the tests share: texts on the tape, and answers looked at. A test's main ends with Desk.close(). */
final class Desk {
    private static int looked = 0;
    private static int wrong = 0;
    private static String edge = "";

    private Desk() {
    }

    interface Call {
        long answer();
    }

    /** The sentence of the document that is looked at from here on: it is told ahead of what is not as due. */
    static void edge(String sentence) {
        edge = "[" + sentence + "] ";
    }

    private static void fail(String what) {
        wrong++;
        System.out.println(edge + what);
    }

    static void due(String what, long got, long want) {
        looked++;
        if (got != want) fail(what + " answered " + got + ", due is " + want);
    }

    static void yes(String what, boolean got) {
        due(what, got ? 1 : 0, 1);
    }

    static void no(String what, boolean got) {
        due(what, got ? 1 : 0, 0);
    }

    static void none(String what, Call call) {
        looked++;
        try {
            long got = call.answer();
            fail(what + " answered " + got + ", due is NoSuchElementException");
        } catch (NoSuchElementException e) {
            if (e.getClass() != NoSuchElementException.class) fail(what + " threw " + e);
        }
    }

    static void bytes(FaceCoins x, byte[] text) {
        for (int i = 0; i < text.length; i += 20) {
            x.feed(four(text, i), four(text, i + 4), four(text, i + 8), four(text, i + 12), four(text, i + 16));
        }
        x.end(text.length);
    }

    private static int four(byte[] text, int from) {
        int n = 0;
        for (int i = from; i < from + 4; i++) n = n << 8 | (i < text.length ? text[i] & 255 : 0);
        return n;
    }

    static void text(FaceCoins x, String text) {
        bytes(x, text.getBytes(java.nio.charset.StandardCharsets.ISO_8859_1));
    }

    static void coins(FaceCoins x, int... numbers) {
        byte[] text = new byte[numbers.length];
        for (int i = 0; i < numbers.length; i++) text[i] = (byte) numbers[i];
        bytes(x, text);
    }

    /** A new object with a LAW, which must be without a FAULT. */
    static FaceCoins under(String law) {
        FaceCoins x = new FaceCoins();
        text(x, law);
        int lines = x.law();
        if (lines < 0) due("law of '" + law + "'", lines, 0);
        return x;
    }

    /** A LAW without a FAULT, of so many LINES, on a new object. */
    static void lines(String law, int lines) {
        FaceCoins x = new FaceCoins();
        text(x, law);
        due("law of '" + law + "'", x.law(), lines);
        due("fault of '" + law + "'", x.fault(), 0);
    }

    static void lawFault(String law, int place, int kind) {
        lawFault(new FaceCoins(), law, place, kind);
    }

    static void lawFault(FaceCoins x, String law, int place, int kind) {
        text(x, law);
        due("law of '" + law + "'", x.law(), -1 - place);
        due("fault of '" + law + "'", x.fault(), kind);
    }

    static void sentenceFault(FaceCoins x, String sentence, int place, int kind) {
        text(x, sentence);
        due("sentence of '" + sentence + "'", x.sentence(), -1 - place);
        due("fault of '" + sentence + "'", x.fault(), kind);
    }

    /** A SALE of such COINS, put on an empty tape. */
    static int sale(FaceCoins x, int buyer, int seller, int m, int price, int... coins) {
        coins(x, coins);
        return x.sale(buyer, seller, m, price);
    }

    static void close() {
        System.out.println(looked + " answers looked at, " + wrong + " not as due");
        if (wrong != 0) System.exit(1);
    }
}
