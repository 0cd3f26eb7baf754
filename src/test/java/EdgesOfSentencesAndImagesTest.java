/** Each sentence on SENTENCES and images that names a boundary (promises 34 to 37). */
public final class EdgesOfSentencesAndImagesTest {
    private static final int LEAST = Integer.MIN_VALUE;
    private static final int MOST = Integer.MAX_VALUE;
    private static final String LAW = "who ann;who bob;who cy;mint m 2 4;mint n 5 9;thin 20;faces 4;";

    public static void main(String[] args) {
        twoHundred();
        emptyOnes();
        tokensThatCantCome();
        numbersOfAllSizes();
        noSuchWho();
        twentyOnes();
        eightWithin();
        firstFault();
        itStays();
        howManyOnes();
        notBindsOne();
        andAheadOfOr();
        ofTwenty();
        signs();
        bearsShowsHeld();
        falseOnes();
        layersAndStruck();
        saidOnes();
        saidOfAll();
        places();
        whatIsKept();
        whatStays();
        nothingUndone();
        keptApart();
        Desk.close();
    }

    private static void ones(FaceCoins x, String sentence, int ones) {
        Desk.text(x, sentence);
        Desk.due("ONES of '" + sentence + "'", x.sentence(), ones);
        Desk.due("fault of '" + sentence + "'", x.fault(), 0);
    }

    private static void ones(String sentence, int ones) {
        ones(Desk.under(LAW), sentence, ones);
    }

    private static void fault(String sentence, int place, int kind) {
        Desk.sentenceFault(Desk.under(LAW), sentence, place, kind);
    }

    private static void twoHundred() {
        Desk.edge("A SENTENCE is a text of at most 200 bytes");
        ones("false" + " ".repeat(195), 1);
        ones(" ".repeat(195) + "false", 1);
        fault("false" + " ".repeat(196), 200, 1);
        fault(" ".repeat(196) + "false", 200, 1);
        fault(" ".repeat(199) + "falsehood", 199, 1);
        fault(" ".repeat(200) + "false", 200, 1);
        fault(" ".repeat(193) + "held dan", 198, 3);
        fault(" ".repeat(194) + "held dan", 199, 3);
        fault(" ".repeat(195) + "held dan", 200, 1);
        fault(" ".repeat(740), 200, 1);
        fault("held dan" + " ".repeat(732), 5, 3);
    }

    private static void emptyOnes() {
        Desk.edge("COND: ALL { 'or' ALL } (none is no COND)");
        fault("", 0, 1);
        fault(" \n", 2, 1);
        fault("()", 1, 1);
        fault("not", 3, 1);
        fault("false or", 8, 1);
        fault("false and", 9, 1);
    }

    private static void tokensThatCantCome() {
        Desk.edge("1 no TOKEN, or one that can't come (of a SENTENCE)");
        fault("false;", 5, 1);
        fault("false false", 6, 1);
        fault("(false", 6, 1);
        fault("false)", 5, 1);
        fault("((false)", 8, 1);
        fault("(false))", 7, 1);
        fault("or false", 0, 1);
        fault("and", 0, 1);
        fault("false or or false", 9, 1);
        fault("false or and false", 9, 1);
        fault("bears", 5, 1);
        fault("bears (ann)", 6, 1);
        fault("bears not", 6, 1);
        fault("bears 7", 6, 1);
        fault("ann", 0, 1);
        fault("who ann", 0, 1);
        fault("7", 0, 1);
        fault("= 7", 0, 1);
        fault("grains", 6, 1);
        fault("grains 7", 7, 1);
        fault("grains < ", 9, 1);
        fault("grains < =", 9, 1);
        fault("grains <= 7", 8, 1);
        fault("grains < ann", 9, 1);
        fault("grains ; 7", 7, 1);
        fault("grains ( 7", 7, 1);
        fault("False", 0, 1);
        fault("false.", 5, 1);
        fault("notfalse", 0, 1);
    }

    private static void numbersOfAllSizes() {
        Desk.edge("'grains' SIGN NUMBER: 1 to 4 digits, none that is not as told");
        ones("grains<0", 1);
        ones("grains<0000", 1);
        ones("layers>9999", 1);
        ones("struck=0009", 1);
        fault("grains<00000", 7, 1);
        fault("grains<10000", 7, 1);
        fault("grains<9a", 7, 1);
    }

    private static void noSuchWho() {
        Desk.edge("3 (no such WHO)");
        for (String word : new String[] {"bears ", "shows ", "held "}) {
            ones(word + "cy", 1);
            fault(word + "dan", word.length(), 3);
            fault(word + "m", word.length(), 3);
            fault(word + "an", word.length(), 3);
            fault(word + "annn", word.length(), 3);
        }
        Desk.sentenceFault(new FaceCoins(), "held ann", 5, 3);
    }

    private static void twentyOnes() {
        Desk.edge("20 ONES; 4 a 21st ONE (at its first TOKEN)");
        String twenty = "false" + " or false".repeat(19);
        ones(twenty, 20);
        fault(twenty + " or false", twenty.length() + 4, 4);
        fault(twenty + " and not false", twenty.length() + 5, 4);
        fault(twenty + " or (false)", twenty.length() + 4, 4);
        fault(twenty + " or held dan", twenty.length() + 4, 4);
        fault(twenty + " or ;", twenty.length() + 4, 1);
        fault(twenty + " or", twenty.length() + 3, 1);
        // A bracket is a ONE, and what is in it.
        String nineteen = "false" + " or false".repeat(18);
        ones(nineteen + " or layers=1", 20);
        fault(nineteen + " or (false)", nineteen.length() + 5, 4);
        fault(nineteen + " or not false", nineteen.length() + 8, 4);
        ones("not false" + " or not false".repeat(9), 20);
        ones("(false)" + " and (false)".repeat(9), 20);
    }

    private static void eightWithin() {
        Desk.edge("8 within one another; 4 a ninth within (at its first TOKEN)");
        ones("not ".repeat(7) + "false", 8);
        fault("not ".repeat(8) + "false", 32, 4);
        fault("not ".repeat(9) + "false", 32, 4);
        ones("(".repeat(7) + "false" + ")".repeat(7), 8);
        fault("(".repeat(8) + "false" + ")".repeat(8), 8, 4);
        fault("not(not(not(not(not(not(not(not(", 16, 4);
        fault("(".repeat(8) + ";", 8, 1);
        fault("(".repeat(8), 8, 1);
        // Side by side is not within.
        ones("not ".repeat(7) + "false and " + "not ".repeat(7) + "false", 16);
        ones("(".repeat(7) + "false or false and false" + ")".repeat(7), 10);
        fault("(".repeat(7) + "false or not false" + ")".repeat(7), 7 + 9 + 4, 4);
    }

    private static void firstFault() {
        Desk.edge("FAULTS, the first along the text, of one TOKEN the least (of a SENTENCE)");
        fault("held dan or grains<10000", 5, 3);
        fault("grains<10000 or held dan", 7, 1);
        fault("held begs", 5, 1);
        fault("held 7", 5, 1);
        fault("held abcdefg", 5, 1);
        fault("held dan!", 5, 3);
        fault("false! held dan", 5, 1);
    }

    private static void itStays() {
        Desk.edge("-1 less the place of a FAULT: it stays. (the SENTENCE)");
        FaceCoins x = Desk.under(LAW);
        x.coin(0, 100, 0);
        x.coin(1, 100, 0);
        ones(x, "held bob", 1);
        Desk.sentenceFault(x, "not not held bob or held ann or", 31, 1);
        Desk.due("said of COIN 1", x.said(0), 1);
        Desk.due("alone", x.said(-1), 1);
        Desk.sentenceFault(x, "", 0, 1);
        Desk.due("alone", x.said(-1), 1);
    }

    private static void howManyOnes() {
        Desk.edge("how many ONES (each not, bracket and other one)");
        ones("false", 1);
        ones("not false", 2);
        ones("(false)", 2);
        ones("not (false)", 3);
        ones("false or false", 2);
        ones("not(bears ann or not shows bob)and(grains<5)", 7);
    }

    /** COIN 0 has 98 GRAINS of ann; 1 has 55, ann's with bob on top, bob's; 2 has 58 of cy, robbed by ann. */
    private static FaceCoins three() {
        FaceCoins x = Desk.under(LAW);
        x.coin(0, 100, 0);
        x.coin(0, 59, 0);
        x.coin(2, 60, 0);
        Desk.due("sale", Desk.sale(x, 0, 1, 0, 1, 1), 0);
        x.rob(0, 2);
        return x;
    }

    private static void said(FaceCoins x, String sentence, int... coins) {
        Desk.text(x, sentence);
        Desk.yes("'" + sentence + "' is one", x.sentence() > 0);
        Desk.due("how many by '" + sentence + "'", x.said(-1), coins.length);
        for (int k = 0; k < coins.length; k++) Desk.due(k + " by '" + sentence + "'", x.said(k), coins[k]);
        Desk.due("no more by '" + sentence + "'", x.said(coins.length), -1);
    }

    private static void notBindsOne() {
        Desk.edge("ONE: 'not' ONE | ( COND )");
        FaceCoins x = three();
        said(x, "not held ann or held bob", 1);
        said(x, "not (held ann or held bob)");
        said(x, "not held bob and bears cy", 2);
        said(x, "not (held bob and bears cy)", 0, 1, 2);
        said(x, "not not not held bob", 0, 2);
        said(x, "held bob or not (held bob or bears cy)", 0, 1);
        said(x, "held ann and not (bears cy and held ann)", 0);
    }

    private static void andAheadOfOr() {
        Desk.edge("COND: ALL { 'or' ALL }. ALL: ONE { 'and' ONE }.");
        FaceCoins x = three();
        said(x, "bears ann or bears bob and held ann", 0);
        said(x, "held ann and bears bob or bears ann", 0);
        said(x, "(bears ann or bears bob) and held ann", 0);
        said(x, "bears bob or held ann and bears cy", 1, 2);
        said(x, "(bears bob or held ann) and bears cy", 2);
        said(x, "bears ann or bears bob or bears cy", 0, 1, 2);
        said(x, "shows ann and shows bob and held bob", 1);
        said(x, "shows ann and shows bob and held ann");
        said(x, "held ann and (bears ann or bears bob)", 0);
        said(x, "held ann and (bears cy and struck=1)", 2);
        said(x, "held ann and (bears ann and struck=2 or bears cy and struck=1)", 2);
        said(x, "held bob or (held ann and (bears cy or (false and bears ann)))", 1, 2);
        said(x, "held bob and (false or (held bob and (false or (held bob and shows ann))))", 1);
    }

    private static void ofTwenty() {
        Desk.edge("20 ONES (said of COINS by all of them)");
        FaceCoins x = three();
        for (int i = 0; i < 3; i++) {
            said(x, "false" + " or false".repeat(18) + " or held bob", 1);
            said(x, "held ann" + " or false".repeat(19), 0, 2);
            said(x, "held bob" + " and layers>0".repeat(12) + " and layers>2");
            said(x, "held bob" + " and layers>0".repeat(13), 1);
            said(x, "false or not(" + "false or ".repeat(16) + "held bob)", 0, 2);
        }
    }

    private static void signs() {
        Desk.edge("( 'grains' | 'layers' | 'struck' ) SIGN NUMBER");
        FaceCoins x = three();
        said(x, "grains<98", 1, 2);
        said(x, "grains<99", 0, 1, 2);
        said(x, "grains=98", 0);
        said(x, "grains=97");
        said(x, "grains>97", 0);
        said(x, "grains>98");
        said(x, "grains<0");
        said(x, "grains>0", 0, 1, 2);
    }

    private static void bearsShowsHeld() {
        Desk.edge("'bears' WHO (on top) | 'shows' WHO (anywhere) | 'held' WHO (its owner)");
        FaceCoins x = three();
        said(x, "bears ann", 0);
        said(x, "bears bob", 1);
        said(x, "shows ann", 0, 1);
        said(x, "shows bob", 1);
        said(x, "held ann", 0, 2);
        said(x, "held cy");
        said(x, "bears cy", 2);
        Desk.due("sale at n", Desk.sale(x, 1, 2, 1, 1, 1), 0);
        said(x, "shows ann", 0);
        said(x, "shows bob");
        said(x, "shows cy", 1, 2);
    }

    private static void falseOnes() {
        Desk.edge("'false' (it shows a FALSE FACE)");
        FaceCoins x = three();
        said(x, "false");
        x.steal(1, 0);
        Desk.due("forge", x.forge(1, 0), 0);
        Desk.due("on top", x.said(0), 1);
        Desk.due("sale at m", Desk.sale(x, 1, 2, 0, 1, 1), 0);
        Desk.due("under another one", x.said(0), 1);
        x.undo();
        Desk.due("sale at n", Desk.sale(x, 1, 2, 1, 1, 1), 0);
        Desk.due("gone", x.said(-1), 0);
    }

    private static void layersAndStruck() {
        Desk.edge("(FACES that it shows; STROKES that it had)");
        FaceCoins x = three();
        said(x, "layers=2", 1);
        said(x, "struck=2", 1);
        Desk.due("sale at n", Desk.sale(x, 1, 2, 1, 1, 1), 0);
        said(x, "layers=1", 0, 1, 2);
        said(x, "struck=3", 1);
        said(x, "struck>2", 1);
        said(x, "struck<3", 0, 2);
        said(x, "layers<1");
        said(x, "layers<2", 0, 1, 2);
    }

    private static void saidOnes() {
        Desk.edge("how many (k NONE), or the k-th one's number. NONE: there is no SENTENCE, none such.");
        FaceCoins x = three();
        Desk.due("no SENTENCE", x.said(-1), -1);
        Desk.due("no SENTENCE", x.said(0), -1);
        said(x, "held ann", 0, 2);
        for (int k : new int[] {2, -2, LEAST, MOST}) Desk.due("k " + k, x.said(k), -1);
        Desk.text(x, LAW);
        x.law();
        Desk.due("a new LAW", x.said(-1), -1);
        ones(x, "not false", 2);
        Desk.due("of no COINS", x.said(-1), 0);
        Desk.due("the first of none", x.said(0), -1);
    }

    private static void saidOfAll() {
        Desk.edge("COINS of which it may be said (40 at most)");
        FaceCoins x = Desk.under(LAW);
        for (int c = 0; c < 40; c++) x.coin(0, 100, 0);
        ones(x, "not false", 2);
        Desk.due("all", x.said(-1), 40);
        Desk.due("the last one", x.said(39), 39);
        Desk.due("no more", x.said(40), -1);
    }

    private static void places() {
        Desk.edge("kept in place k (0, 1): true; false: no such one, or nothing is kept there");
        FaceCoins x = Desk.under(LAW);
        for (int k : new int[] {-1, 2, LEAST, MOST}) {
            Desk.no("image(" + k + ")", x.image(k));
            Desk.no("restore(" + k + ")", x.restore(k));
        }
        Desk.no("nothing in 0", x.restore(0));
        Desk.no("nothing in 1", x.restore(1));
        Desk.yes("image(0)", x.image(0));
        Desk.no("still nothing in 1", x.restore(1));
        Desk.yes("restore(0)", x.restore(0));
        Desk.yes("image(1)", x.image(1));
        Desk.yes("restore(1)", x.restore(1));
        Desk.yes("restore(0) once more", x.restore(0));
    }

    private static void whatIsKept() {
        Desk.edge("LAW, COINS, SALES, STROKES, DAY and SENTENCE are kept");
        FaceCoins x = three();
        x.day();
        x.steal(1, 0);
        x.dies(2, 0);
        x.close(1);
        ones(x, "held ann", 1);
        x.image(0);
        String before = Sight.of(x);
        Desk.text(x, "who z begs owes;mint y 9 9;lucky 7;dead 7;thin 7;faces 7;takes z z 7;");
        Desk.due("another LAW", x.law(), 7);
        x.day();
        for (int c = 0; c < 4; c++) x.coin(0, 500 + c, 0);
        Desk.text(x, "who y;who z;mint u 9 9;mint v 9 9;");
        Desk.due("and another one", x.law(), 4);
        x.day();
        x.day();
        for (int c = 0; c < 2; c++) x.coin(1, 500 + c, 1);
        Desk.due("sale", Desk.sale(x, 1, 0, 1, 77, 1, 0), 0);
        ones(x, "not held z", 2);
        Desk.yes("restore", x.restore(0));
        Desk.yes("all is as it was", Sight.of(x).equals(before));
        Desk.sentenceFault(x, "held z", 5, 3);
        ones(x, "held cy", 1);
    }

    private static void whatStays() {
        Desk.edge("(the tape, and what other calls told last, stays; nothing can be undone)");
        FaceCoins x = three();
        x.image(0);
        Desk.due("payment", x.payment(1, 0, 0, 5), 55);
        Desk.due("rows", x.rows(0, 100, 1), 1);
        Desk.sentenceFault(x, "held dan", 5, 3);
        x.feed(0x77686F20, 0x613B7768, 0x6F20623B, 0, 0);
        x.end(12);
        x.restore(0);
        Desk.due("bytes", x.count(11), 12);
        Desk.due("fault", x.fault(), 3);
        Desk.due("paid", x.paid(1), 1);
        Desk.due("could", x.could(0, 0), 1);
        Desk.due("the bytes themselves", x.law(), 2);
    }

    private static void nothingUndone() {
        Desk.edge("nothing can be undone");
        FaceCoins x = three();
        x.image(0);
        Desk.no("no such one: it can", x.restore(2));
        Desk.no("nothing kept: it can", x.restore(1));
        Desk.due("undo", x.undo(), 4);
        x.restore(0);
        Desk.due("not behind restore()", x.undo(), -1);
        x.day();
        Desk.due("but what comes then", x.undo(), 0);
        Desk.due("and no more", x.undo(), -1);
        Desk.due("COINS", x.count(7), 3);
    }

    private static void keptApart() {
        Desk.edge("They are as kept in place k");
        FaceCoins x = three();
        x.image(0);
        String first = Sight.of(x);
        Desk.due("sale", Desk.sale(x, 0, 1, 0, 1, 0), 0);
        x.image(1);
        String second = Sight.of(x);
        Desk.no("they differ", first.equals(second));
        x.restore(0);
        Desk.yes("the first", Sight.of(x).equals(first));
        x.rob(1, 0);
        x.restore(1);
        Desk.yes("the second", Sight.of(x).equals(second));
        x.restore(0);
        Desk.yes("the first again", Sight.of(x).equals(first));
        x.image(1);
        x.restore(1);
        Desk.yes("kept over the second", Sight.of(x).equals(first));
    }
}
