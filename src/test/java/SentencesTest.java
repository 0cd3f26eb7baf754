/** Promises 34 and 35: SENTENCES, their FAULTS, and of which COINS they may be said. */
public final class SentencesTest {
    private static final String LAW = "who ann;who bob;who cy;mint m 2 4;mint n 5 9;thin 20;faces 4;";

    public static void main(String[] args) {
        faults();
        howMany();
        longTexts();
        saying();
        layersAndStrokes();
        joining();
        stays();
        Desk.close();
    }

    private static void faults() {
        FaceCoins x = Desk.under(LAW);
        Desk.sentenceFault(x, "", 0, 1);
        Desk.sentenceFault(x, "  ", 2, 1);
        Desk.sentenceFault(x, "ann", 0, 1);
        Desk.sentenceFault(x, "bears", 5, 1);
        Desk.sentenceFault(x, "bears 5", 6, 1);
        Desk.sentenceFault(x, "bears not", 6, 1);
        Desk.sentenceFault(x, "bears dan", 6, 3);
        Desk.sentenceFault(x, "shows m", 6, 3);
        Desk.sentenceFault(x, "held zzz false", 5, 3);
        Desk.sentenceFault(x, "false false", 6, 1);
        Desk.sentenceFault(x, "false)", 5, 1);
        Desk.sentenceFault(x, "(false", 6, 1);
        Desk.sentenceFault(x, "()", 1, 1);
        Desk.sentenceFault(x, "(false;", 6, 1);
        Desk.sentenceFault(x, "false or", 8, 1);
        Desk.sentenceFault(x, "false or and", 9, 1);
        Desk.sentenceFault(x, "and false", 0, 1);
        Desk.sentenceFault(x, "not", 3, 1);
        Desk.sentenceFault(x, "grains 5", 7, 1);
        Desk.sentenceFault(x, "grains <", 8, 1);
        Desk.sentenceFault(x, "grains < = 5", 9, 1);
        Desk.sentenceFault(x, "grains < ann", 9, 1);
        Desk.sentenceFault(x, "grains<10000", 7, 1);
        Desk.sentenceFault(x, "grains<5or false", 7, 1);
        Desk.sentenceFault(x, "false!", 5, 1);
        Desk.sentenceFault(x, "who ann", 0, 1);
        Desk.due("no sentence", x.said(-1), -1);
        Desk.due("no sentence", x.said(0), -1);
    }

    private static void howMany() {
        FaceCoins x = Desk.under(LAW);
        ones(x, "false", 1);
        ones(x, "not(bears ann or shows bob)and held cy", 5);
        ones(x, "((((((((", -1 - 8);
        ones(x, "(((((((false)))))))", 8);
        Desk.sentenceFault(x, "((((((((false))))))))", 8, 4);
        ones(x, "not (not (not (not false)))", 8);
        Desk.sentenceFault(x, "not (not (not (not (false))))", 20, 4);
        Desk.sentenceFault(x, "not (not (not (not ;", 19, 1);
        Desk.sentenceFault(x, "((((((((;", 8, 1);
        ones(x, "false" + " or false".repeat(19), 20);
        ones(x, "false" + " and false".repeat(19), 20);
        Desk.sentenceFault(x, "false" + " or false".repeat(20), 5 + 9 * 19 + 4, 4);
        Desk.sentenceFault(x, "false" + " or false".repeat(19) + " or ;", 5 + 9 * 19 + 4, 1);
        Desk.sentenceFault(x, "false" + " or false".repeat(19) + " or", 5 + 9 * 19 + 3, 1);
        String nineteen = "false" + " or false".repeat(16) + " or not (";
        ones(x, nineteen + "false)", 20);
        Desk.sentenceFault(x, nineteen + "false or false)", nineteen.length() + 9, 4);
        // Side by side nothing is within.
        ones(x, "(false)or(false)or(false)or(false)or(false)or(false)or(false)or(false)or(false)or(false)", 20);
        // The innermost have 8 within one another on both sides.
        ones(x, "not not not not not not not false or not not not not not not not false", 16);
    }

    private static void ones(FaceCoins x, String sentence, int many) {
        Desk.text(x, sentence);
        Desk.due("sentence of '" + sentence + "'", x.sentence(), many);
        Desk.due("tape behind it", x.count(11), 0);
        if (many > 0) Desk.due("fault", x.fault(), 0);
    }

    private static void longTexts() {
        FaceCoins x = Desk.under(LAW);
        ones(x, "false" + " ".repeat(195), 1);
        Desk.sentenceFault(x, "false" + " ".repeat(196), 200, 1);
        Desk.sentenceFault(x, " ".repeat(199) + "false", 200, 1);
        Desk.sentenceFault(x, " ".repeat(200) + "false", 200, 1);
        Desk.sentenceFault(x, " ".repeat(199) + "falsehood", 199, 1);
        Desk.sentenceFault(x, " ".repeat(193) + "bears dan", 199, 3);
        Desk.sentenceFault(x, " ".repeat(194) + "bears dan", 200, 1);
        Desk.sentenceFault(x, "bears dan" + " ".repeat(300), 6, 3);
        ones(x, " ".repeat(195) + "false", 1);
    }

    /** COIN 0 of ann; 1 of ann with bob on top; 2 of bob, forged to show cy; 3 of ann, robbed by cy. */
    private static FaceCoins four() {
        FaceCoins x = Desk.under(LAW);
        x.coin(0, 100, 0);
        x.coin(0, 60, 0);
        x.coin(1, 80, 0);
        x.coin(0, 50, 0);
        Desk.coins(x, 1);
        Desk.due("sale", x.sale(0, 1, 0, 5), 0);
        x.steal(1, 2);
        Desk.due("forge", x.forge(2, 0), 0);
        x.rob(2, 3);
        return x;
    }

    private static void said(FaceCoins x, String sentence, int... coins) {
        Desk.text(x, sentence);
        Desk.yes(sentence, x.sentence() > 0);
        Desk.due("said of '" + sentence + "'", x.said(-1), coins.length);
        for (int k = 0; k < coins.length; k++) Desk.due("said(" + k + ") of '" + sentence + "'", x.said(k), coins[k]);
        Desk.due("said of no more", x.said(coins.length), -1);
        Desk.due("said(-2)", x.said(-2), -1);
    }

    private static void saying() {
        FaceCoins x = four();
        said(x, "bears ann", 0, 3);
        said(x, "bears bob", 1);
        said(x, "bears cy", 2);
        said(x, "shows ann", 0, 1, 3);
        said(x, "shows bob", 1, 2);
        said(x, "held bob", 1, 2);
        said(x, "held cy", 3);
        said(x, "false", 2);
        // 98, 56, 76, 48
        said(x, "grains<76", 1, 3);
        said(x, "grains=76", 2);
        said(x, "grains>76", 0);
        said(x, "layers=1", 0, 3);
        said(x, "layers>1", 1, 2);
        said(x, "layers<1");
        said(x, "struck=2", 1, 2);
        said(x, "struck<2", 0, 3);
        said(x, "struck>9999");
        said(x, "struck>0000", 0, 1, 2, 3);
    }

    private static void layersAndStrokes() {
        FaceCoins x = Desk.under(LAW);
        x.coin(0, 100, 0);
        x.coin(0, 100, 0);
        Desk.coins(x, 1);
        Desk.due("sale", x.sale(0, 1, 1, 5), 0);
        said(x, "layers=1", 0, 1);
        said(x, "layers=2");
        said(x, "struck=1", 0);
        said(x, "struck=2", 1);
        said(x, "shows ann", 0);
    }

    private static void joining() {
        FaceCoins x = four();
        said(x, "not bears ann", 1, 2);
        said(x, "bears ann or false", 0, 2, 3);
        said(x, "shows ann and held bob", 1);
        said(x, "bears bob or shows ann and held cy", 1, 3);
        said(x, "held cy and shows ann or bears bob", 1, 3);
        said(x, "(bears bob or shows ann) and held cy", 3);
        said(x, "not bears ann and false", 2);
        said(x, "not(bears ann and false)", 0, 1, 2, 3);
        said(x, "not not false", 2);
        said(x, "not false or false", 0, 1, 2, 3);
        said(x, "false or false or held cy or false", 2, 3);
        said(x, "shows ann and shows bob and layers=2", 1);
        said(x, "grains<50 or grains>90 and not (held ann or held cy)", 3);
        said(x, "(((((false or held cy)))))and(grains=48 or grains=76)", 2, 3);
    }

    private static void stays() {
        FaceCoins x = four();
        said(x, "bears bob", 1);
        Desk.sentenceFault(x, "false or", 8, 1);
        Desk.due("the earlier one stays", x.said(0), 1);
        x.day();
        x.steal(0, 1);
        x.forge(0, 0);
        Desk.due("of what is now", x.said(-1), 2);
        x.undo();
        Desk.due("of what is then", x.said(-1), 1);
        Desk.lawFault(x, "who", 3, 1);
        Desk.due("stays at a law's fault", x.said(-1), 1);
        Desk.text(x, LAW);
        x.law();
        Desk.due("not by a new law", x.said(-1), -1);
        FaceCoins y = new FaceCoins();
        Desk.text(y, "false");
        Desk.due("without a law", y.sentence(), 1);
        Desk.due("of none", y.said(-1), 0);
        Desk.sentenceFault(y, "held ann", 5, 3);
    }
}
