/** Each sentence on texts that names a boundary: TOKENS, LAW, FAULTS, the tape (promises 1 to 5, 38). */
public final class EdgesOfTextsTest {
    private static final String[] TOLD = {"who", "begs", "owes", "mint", "takes", "lucky", "dead", "thin", "faces", "or",
        "and", "not", "bears", "shows", "held", "false", "grains", "layers", "struck"};
    private static final String EIGHT = "who a;who b;who c;who d;who e;who f;who g;who h;";
    private static final String FOUR = "mint i 1 1;mint j 1 1;mint k 1 1;mint l 1 1;";

    public static void main(String[] args) {
        newObject();
        lastCall();
        feeding();
        bytesInOrder();
        ending();
        countOfOther();
        blanks();
        everyByte();
        words();
        numbers();
        runs();
        lossAndBlur();
        takes();
        eachTwoOnce();
        settings();
        settingsWithout();
        settingsOnce();
        toldWords();
        toldOnce();
        peopleAndMints();
        numberedFromNone();
        lineOrder();
        faultAtTheEnd();
        sevenHundred();
        readWhole();
        firstFault();
        leastFaultOfOneToken();
        namesOfAnotherSort();
        ninthAtItsFirstWord();
        tapeIsEmptyThen();
        theLawStays();
        linesOfTheLaw();
        faultOfTheLatest();
        newLaw();
        Desk.close();
    }

    private static void newObject() {
        Desk.edge("An empty LAW; an empty tape.");
        FaceCoins x = new FaceCoins();
        int[] counts = {0, 0, 0, 0, 50, 50, 5, 0, 0, -1, -1, 0};
        for (int i = 0; i < counts.length; i++) Desk.due("count(" + i + ")", x.count(i), counts[i]);
        Desk.due("fault", x.fault(), 0);
        Desk.due("luck", x.luck(), 0);
        Desk.due("sales", x.sales(), 0);
        Desk.due("strokes", x.strokes(), 0);
        Desk.due("foreign", x.foreign(-1), 0);
        Desk.due("silver 0", x.silver(0), 0);
        Desk.due("silver 1", x.silver(1), 0);
        Desk.due("silver 2", x.silver(2), 0);
        Desk.due("said", x.said(-1), -1);
        Desk.due("undo", x.undo(), -1);
        Desk.due("paid", x.paid(0), -1);
        Desk.due("could", x.could(0, 0), -1);
        Desk.no("restore 0", x.restore(0));
        Desk.no("restore 1", x.restore(1));
        Desk.due("the empty text is a LAW", x.law(), 0);
    }

    private static void lastCall() {
        Desk.edge("An object is used for at most 512 calls");
        FaceCoins x = new FaceCoins();
        for (int i = 1; i < 512; i++) x.day();
        Desk.due("the 512th", x.day(), 512);
    }

    private static void feeding() {
        Desk.edge("how many it has; NONE, and none come, if it would have more than 740");
        FaceCoins x = new FaceCoins();
        for (int n = 20; n <= 740; n += 20) Desk.due("feed", x.feed(0, 0, 0, 0, 0), n);
        Desk.due("of 740", x.feed(0, 0, 0, 0, 0), -1);
        Desk.due("none came", x.count(11), 740);
        x.end(721);
        Desk.due("of 721", x.feed(0, 0, 0, 0, 0), -1);
        Desk.due("none came", x.count(11), 721);
        x.end(720);
        Desk.due("of 720", x.feed(0, 0, 0, 0, 0), 740);
        x.end(1);
        Desk.due("of 1", x.feed(0, 0, 0, 0, 0), 21);
        // None of the bytes that were refused is there, those that were there stay.
        FaceCoins y = new FaceCoins();
        Desk.text(y, " ".repeat(721));
        Desk.due("refused", y.feed(0x3B3B3B3B, 0x3B3B3B3B, 0x3B3B3B3B, 0x3B3B3B3B, 0x3B3B3B3B), -1);
        Desk.yes("cut", y.end(700));
        Desk.due("blanks as before", y.law(), 0);
    }

    private static void bytesInOrder() {
        Desk.edge("Twenty bytes come behind the tape, of each number the highest first");
        FaceCoins x = Desk.under("who a;who b;mint m 1 1;thin 1;");
        for (int c = 0; c < 20; c++) x.coin(0, 9, 0);
        x.feed(0x13000112, 0x02110310, 0x040F050E, 0x060D070C, 0x080B090A);
        Desk.due("sale of all twenty", x.sale(0, 1, 0, 1), 0);
        int[] told = {19, 0, 1, 18, 2, 17, 3, 16, 4, 15, 5, 14, 6, 13, 7, 12, 8, 11, 9, 10};
        for (int i = 0; i < 20; i++) Desk.due("byte " + i, x.stroke(20 + i, 0), told[i]);
        // Bytes of 128 and above are no less than 0.
        x.feed(0x80FF0000, 0, 0, 0, 0);
        x.end(1);
        Desk.due("COIN 128", x.sale(1, 0, 0, 1), -1);
        x.feed(0xFFFFFFFF, -1, -1, -1, -1);
        x.end(1);
        Desk.due("COIN 255", x.sale(1, 0, 0, 1), -1);
        // Behind what is there, not in its place.
        x.feed(0x00000000, 0, 0, 0, 0);
        x.end(1);
        x.feed(0x01000000, 0, 0, 0, 0);
        x.end(2);
        Desk.due("two", x.sale(1, 0, 0, 1), 0);
        Desk.due("the first", x.stroke(40, 0), 0);
        Desk.due("the second", x.stroke(41, 0), 1);
    }

    private static void ending() {
        Desk.edge("The tape has its first n bytes alone: true; false, if it has not so many, or n is below 0.");
        FaceCoins x = new FaceCoins();
        Desk.no("1 of none", x.end(1));
        Desk.yes("0 of none", x.end(0));
        x.feed(0x77686F20, 0x613B7768, 0x6F20623B, 0, 0);
        Desk.no("21", x.end(21));
        Desk.no("most", x.end(Integer.MAX_VALUE));
        Desk.no("-1", x.end(-1));
        Desk.no("least", x.end(Integer.MIN_VALUE));
        Desk.due("as before", x.count(11), 20);
        Desk.yes("20", x.end(20));
        Desk.due("20 then", x.count(11), 20);
        Desk.yes("12", x.end(12));
        Desk.no("13, no more", x.end(13));
        Desk.due("the first 12", x.law(), 2);
        x.feed(1, 2, 3, 4, 5);
        Desk.yes("0", x.end(0));
        Desk.due("none", x.count(11), 0);
    }

    private static void countOfOther() {
        Desk.edge("NONE for another what.");
        FaceCoins x = Desk.under("who a;");
        x.feed(0, 0, 0, 0, 0);
        Desk.due("11", x.count(11), 20);
        for (int what : new int[] {12, -1, Integer.MIN_VALUE, Integer.MAX_VALUE}) Desk.due("" + what, x.count(what), -1);
    }

    private static void blanks() {
        Desk.edge("TOKENS of all texts, with blanks (32, 10) between them or not");
        Desk.lines(" \n who\n\na  begs \nowes\n;\n", 1);
        Desk.lines("who a;who b;takes a b 0;", 3);
        Desk.lines("lucky\n1\n;", 1);
        Desk.lines("", 0);
        Desk.lines(" ", 0);
        Desk.lines("\n", 0);
        for (int no : new int[] {0, 9, 11, 12, 13, 31, 33, 160}) Desk.lawFault("lucky" + (char) no + "1;", 5, 1);
    }

    /** The byte stands behind a NAME, where a blank, ;, a letter can be. */
    private static void everyByte() {
        Desk.edge("what is not as told is no TOKEN");
        for (int sign = 0; sign < 256; sign++) {
            String law = "who a" + (char) sign + ";";
            if (sign == 32 || sign == 10 || sign >= 'a' && sign <= 'z') Desk.lines(law, 1);
            else if (sign >= '0' && sign <= '9') Desk.lawFault(law, 4, 1);
            else Desk.lawFault(law, sign == ';' ? 6 : 5, 1);
        }
    }

    private static void words() {
        Desk.edge("WORDS: small letters, 1 to 6");
        Desk.lines("who a;who z;", 2);
        Desk.lines("who abcdef;who zzzzzz;", 2);
        Desk.lawFault("who abcdefg;", 4, 1);
        Desk.lawFault("who zzzzzzz;", 4, 1);
        Desk.lawFault("who Abc;", 4, 1);
        Desk.lawFault("who abC;", 6, 1);
        Desk.lawFault("who a_b;", 5, 1);
    }

    private static void numbers() {
        Desk.edge("NUMBERS: 1 to 4 digits");
        Desk.lines("lucky 7;", 1);
        Desk.lines("lucky 0007;", 1);
        Desk.lines("thin 0999;", 1);
        Desk.lawFault("lucky 00007;", 6, 1);
        Desk.lawFault("lucky 10000;", 6, 1);
        Desk.lawFault("lucky 4294967296;", 6, 1);
        Desk.lawFault("lucky -1;", 6, 1);
        Desk.lawFault("lucky +1;", 6, 1);
        Desk.lawFault("lucky 9999;", 6, 2);
    }

    private static void runs() {
        Desk.edge("A WORD, NUMBER goes on as long as small letters and digits do");
        Desk.lawFault("lucky1;", 0, 1);
        Desk.lawFault("lucky 1a;", 6, 1);
        Desk.lawFault("who a1;", 4, 1);
        Desk.lawFault("who 1a;", 4, 1);
        Desk.lawFault("whoa;", 0, 1);
        Desk.lawFault("who abegs;who abegs;", 14, 3);
        Desk.lines("who a\nbegs;", 1);
    }

    private static void lossAndBlur() {
        Desk.edge("'mint' NAME LOSS BLUR (1 to 50 GRAINS; 1 to 9)");
        Desk.lines("mint m 1 1;mint n 50 9;", 2);
        Desk.lawFault("mint m 0 1;", 7, 2);
        Desk.lawFault("mint m 51 1;", 7, 2);
        Desk.lawFault("mint m 1 0;", 9, 2);
        Desk.lawFault("mint m 1 10;", 9, 2);
        Desk.lawFault("mint m 50;", 9, 1);
        FaceCoins x = Desk.under("mint m 1 9;mint n 50 1;");
        int[][] told = {{1, 9}, {50, 1}};
        for (int m = 0; m < 2; m++) for (int i = 0; i < 2; i++) Desk.due("mint", x.mint(m, i), told[m][i]);
    }

    private static void takes() {
        Desk.edge("'takes' WHO WHO N (0 to 200 hundredths");
        Desk.lines("who a;who b;takes a b 0;takes b a 200;", 4);
        Desk.lawFault("who a;who b;takes a b 201;", 22, 2);
        Desk.lawFault("who a;who b;takes a b;", 21, 1);
        FaceCoins x = Desk.under("who a;who b;mint m 1 1;thin 1;takes a b 0;takes b a 200;");
        x.coin(0, 51, 0);
        x.coin(1, 51, 0);
        Desk.due("0", x.value(0, 1, 0), 0);
        Desk.due("200", x.value(1, 0, 0), 200);
    }

    private static void eachTwoOnce() {
        Desk.edge("each two in this order once; two of 'takes' told again (at the second)");
        Desk.lines("who a;who b;takes a b 1;takes b a 1;takes a a 1;takes b b 1;", 6);
        Desk.lawFault("who a;who b;takes a b 1;takes a b 1;", 32, 3);
        Desk.lawFault("who a;who b;takes b a 1;takes b a 1;", 32, 3);
        Desk.lawFault("who a;takes a a 1;takes a a 2;", 26, 3);
        // Told at 0 is told.
        Desk.lawFault("who a;who b;takes a b 0;takes a b 0;", 32, 3);
        Desk.due("count of takes", Desk.under("who a;who b;takes a b 1;takes b a 1;").count(2), 2);
        Desk.lines(EIGHT + "takes a h 1;takes h a 1;takes h h 1;takes b a 1;", 12);
        Desk.lawFault(EIGHT + "takes h h 1;takes h h 1;", 68, 3);
    }

    private static void settings() {
        Desk.edge("'lucky' N (0 to 100), 'dead' N (0 to 200), 'thin' N (1 to 999), 'faces' N (1 to 9)");
        FaceCoins least = Desk.under("lucky 0;dead 0;thin 1;faces 1;");
        FaceCoins most = Desk.under("lucky 100;dead 200;thin 999;faces 9;");
        int[] lows = {0, 0, 1, 1};
        int[] highs = {100, 200, 999, 9};
        for (int i = 0; i < 4; i++) {
            Desk.due("least " + i, least.count(3 + i), lows[i]);
            Desk.due("most " + i, most.count(3 + i), highs[i]);
        }
        Desk.lawFault("lucky 101;", 6, 2);
        Desk.lawFault("dead 201;", 5, 2);
        Desk.lawFault("thin 0;", 5, 2);
        Desk.lawFault("thin 1000;", 5, 2);
        Desk.lawFault("faces 0;", 6, 2);
        Desk.lawFault("faces 10;", 6, 2);
    }

    private static void settingsWithout() {
        Desk.edge("(0 without), (50 without), (50 without), (5 without)");
        FaceCoins x = Desk.under("lucky 9;dead 9;thin 9;faces 9;");
        Desk.text(x, "who a;");
        x.law();
        int[] without = {0, 50, 50, 5};
        for (int i = 0; i < 4; i++) Desk.due("count(" + (3 + i) + ")", x.count(3 + i), without[i]);
    }

    private static void settingsOnce() {
        Desk.edge("the last four once each; lucky, dead, thin, faces told again (at its WORD)");
        String[] word = {"lucky", "dead", "thin", "faces"};
        for (String one : word) {
            Desk.lawFault(one + " 1;" + one + " 1;", one.length() + 3, 3);
            Desk.lawFault(one + " 1;" + one, one.length() + 3, 3);
            for (String two : word) if (!one.equals(two)) Desk.lines(one + " 1;" + two + " 1;", 2);
        }
        Desk.lawFault("lucky 0;lucky 0;", 8, 3);
    }

    private static void toldWords() {
        Desk.edge("NAME: a WORD, none of those told here or in a SENTENCE");
        for (String word : TOLD) {
            Desk.lawFault("who " + word + ";", 4, 1);
            Desk.lawFault("mint " + word + " 1 1;", 5, 1);
            Desk.lawFault("who a;takes " + word + " a 1;", 12, 1);
            Desk.lawFault("who a;takes a " + word + " 1;", 14, 1);
            Desk.lines("who " + word.substring(1) + ";", 1);
            Desk.lines("who " + word.substring(0, word.length() - 1) + ";", 1);
            if (word.length() < 6) Desk.lines("who " + word + "z;who z" + word + ";", 2);
        }
    }

    private static void toldOnce() {
        Desk.edge("told once; 3 a NAME told twice");
        Desk.lawFault("who a;who a;", 10, 3);
        Desk.lawFault("who a;mint a 1 1;", 11, 3);
        Desk.lawFault("mint a 1 1;who a;", 15, 3);
        Desk.lawFault("mint a 1 1;mint a 1 1;", 16, 3);
        Desk.lawFault(EIGHT.replace("who h;", "") + "who a;", 46, 3);
        Desk.lawFault("mint i 1 1;mint j 1 1;mint k 1 1;mint i 1 1;", 38, 3);
        Desk.lines("who abcdef;who abcdeg;who bbcdef;mint abcde 1 1;mint bcdef 1 1;", 5);
    }

    private static void peopleAndMints() {
        Desk.edge("8 PEOPLE, 4 MINTS at most; 4 a ninth WHO, a fifth MINT (at the LINE's first WORD)");
        Desk.lines(EIGHT + FOUR, 12);
        Desk.lawFault(EIGHT + "\n who i;", EIGHT.length() + 2, 4);
        Desk.lawFault(FOUR + "\n mint m 1 1;", FOUR.length() + 2, 4);
        Desk.lawFault(EIGHT + FOUR + "mint m 1 1;", EIGHT.length() + FOUR.length(), 4);
        Desk.lawFault(FOUR + EIGHT + "who i;", EIGHT.length() + FOUR.length(), 4);
        FaceCoins x = Desk.under(EIGHT + FOUR);
        Desk.due("the eighth", x.who(7, 0), 0);
        Desk.none("a ninth", () -> x.who(8, 0));
        Desk.due("the fourth", x.mint(3, 0), 1);
        Desk.none("a fifth", () -> x.mint(4, 0));
    }

    private static void numberedFromNone() {
        Desk.edge("each sort numbered from 0");
        FaceCoins x = Desk.under("mint m 3 1;who a;mint n 4 1;who b begs;");
        Desk.due("MINT 0", x.mint(0, 0), 3);
        Desk.due("MINT 1", x.mint(1, 0), 4);
        Desk.due("WHO 0", x.who(0, 0), 0);
        Desk.due("WHO 1", x.who(1, 0), 1);
    }

    private static void lineOrder() {
        Desk.edge("'who' NAME [ 'begs' ] [ 'owes' ]");
        Desk.lines("who a;who b begs;who c owes;who d begs owes;", 4);
        Desk.lawFault("who a owes begs;", 11, 1);
        Desk.lawFault("who a begs begs;", 11, 1);
        Desk.lawFault("who a owes owes;", 11, 1);
        Desk.lawFault("who a begs owes owes;", 16, 1);
        Desk.lawFault("who begs;", 4, 1);
        Desk.lawFault("who ;", 4, 1);
        Desk.lawFault("who a b;", 6, 1);
        Desk.lawFault("who a 1;", 6, 1);
        Desk.lawFault("who a who b;", 6, 1);
        Desk.lawFault("mint m 1 1 n;", 11, 1);
        Desk.lawFault("mint m ; 1;", 7, 1);
        Desk.lawFault("lucky 1 1;", 8, 1);
        Desk.lawFault("a;", 0, 1);
        Desk.lawFault("begs;", 0, 1);
        Desk.lawFault("or 1;", 0, 1);
        Desk.lawFault("1;", 0, 1);
    }

    private static void faultAtTheEnd() {
        Desk.edge("(at it; the end: how many bytes there are");
        Desk.lawFault("who", 3, 1);
        Desk.lawFault("who a", 5, 1);
        Desk.lawFault("who a \n ", 8, 1);
        Desk.lawFault("mint m 1 1", 10, 1);
        Desk.lawFault("lucky", 5, 1);
        Desk.lawFault("w", 0, 1);
        Desk.lawFault(";", 0, 1);
        Desk.lawFault("who a;;", 6, 1);
        Desk.lawFault(" ".repeat(697) + "who", 700, 1);
        // What end() has cut is not there, though it would go on.
        FaceCoins x = new FaceCoins();
        Desk.text(x, "who a   ;");
        x.end(5);
        Desk.due("cut ahead of blanks", x.law(), -1 - 5);
        Desk.text(x, "who abc;");
        x.end(5);
        Desk.due("cut within a NAME", x.law(), -1 - 5);
        Desk.text(x, "who a;who a;");
        x.end(6);
        Desk.due("cut behind a LINE", x.law(), 1);
    }

    private static void sevenHundred() {
        Desk.edge("a text of at most 700 bytes; 700, if there are more and no FAULT is ahead");
        Desk.lines(" ".repeat(694) + "who a;", 1);
        Desk.lines("who a;" + " ".repeat(694), 1);
        Desk.lawFault("who a;" + " ".repeat(695), 700, 1);
        Desk.lawFault("who a;" + " ".repeat(734), 700, 1);
        Desk.lawFault(" ".repeat(695) + "who a;", 700, 1);
        Desk.lawFault(" ".repeat(701), 700, 1);
        Desk.lawFault(" ".repeat(699) + "!!", 699, 1);
        Desk.lawFault(" ".repeat(700) + "!", 700, 1);
        Desk.lawFault("lucky 101;" + " ".repeat(691), 6, 2);
        Desk.lawFault("who a;who a;" + " ".repeat(720), 10, 3);
    }

    private static void readWhole() {
        Desk.edge("TOKENS that begin ahead of it are read whole");
        // The ; stands at 700: what begins ahead of it is as told, the end is not.
        Desk.lawFault(" ".repeat(691) + "lucky 100;", 700, 1);
        // 101 begins at 699, 100 does, too.
        Desk.lawFault(" ".repeat(693) + "lucky 101;", 699, 2);
        Desk.lawFault(" ".repeat(693) + "lucky 100;", 700, 1);
        Desk.lawFault(" ".repeat(693) + "lucky 10000;", 699, 1);
        Desk.lawFault(" ".repeat(694) + "lucky 101;", 700, 1);
        Desk.lawFault("who abcdef;" + " ".repeat(684) + "who abcdef;", 699, 3);
        Desk.lawFault("who abcdef;" + " ".repeat(685) + "who abcdef;", 700, 1);
        Desk.lawFault(" ".repeat(699) + "whoso;", 699, 1);
        Desk.lawFault(" ".repeat(699) + "whosoever;", 699, 1);
    }

    private static void firstFault() {
        Desk.edge("FAULTS, the first along the text");
        Desk.lawFault("lucky 101;who a;who a;", 6, 2);
        Desk.lawFault("who a;who a;lucky 101;", 10, 3);
        Desk.lawFault("mint m 51 10;", 7, 2);
        Desk.lawFault("who a;takes b c 300;", 12, 3);
        Desk.lawFault("who a;takes a b 300;", 14, 3);
        Desk.lawFault("lucky 101!", 6, 2);
        Desk.lawFault("lucky 1!;lucky 1;", 7, 1);
    }

    private static void leastFaultOfOneToken() {
        Desk.edge("of one TOKEN the least");
        // No TOKEN, and no NUMBER as told; a WORD that can't come, and one that is not told as a NAME.
        Desk.lawFault("lucky 99999;", 6, 1);
        Desk.lawFault("who a;takes begs a 1;", 12, 1);
        Desk.lawFault("who a;takes 7 a 1;", 12, 1);
        Desk.lawFault("who a;who 1;", 10, 1);
        // At 700 it can't come, though it is a FAULT of another kind as well.
        Desk.lawFault("lucky 1;" + " ".repeat(692) + "lucky 1;", 700, 1);
        Desk.lawFault(EIGHT + " ".repeat(700 - EIGHT.length()) + "who i;", 700, 1);
    }

    private static void namesOfAnotherSort() {
        Desk.edge("3 a NAME told twice, not told, or of another sort");
        Desk.lawFault("takes a a 1;", 6, 3);
        Desk.lawFault("who a;takes a b 1;", 14, 3);
        Desk.lawFault("who a;takes b a 1;", 12, 3);
        Desk.lawFault("who a;mint m 1 1;takes m a 1;", 23, 3);
        Desk.lawFault("who a;mint m 1 1;takes a m 1;", 25, 3);
        Desk.lawFault("who abcdef;takes abcde abcdef 1;", 17, 3);
    }

    private static void ninthAtItsFirstWord() {
        Desk.edge("4 a ninth WHO, a fifth MINT (at the LINE's first WORD)");
        // It is ahead of what else is not as told in that LINE.
        Desk.lawFault(EIGHT + "who a;", EIGHT.length(), 4);
        Desk.lawFault(EIGHT + "who 1;", EIGHT.length(), 4);
        Desk.lawFault(EIGHT + "who", EIGHT.length(), 4);
        Desk.lawFault(FOUR + "mint i 51 10;", FOUR.length(), 4);
        Desk.lawFault(FOUR + "mint", FOUR.length(), 4);
    }

    private static void tapeIsEmptyThen() {
        Desk.edge("The tape (empty then, here and below) is the LAW now");
        FaceCoins x = new FaceCoins();
        Desk.text(x, "who a;");
        x.law();
        Desk.due("behind a LAW", x.count(11), 0);
        Desk.text(x, "who");
        x.law();
        Desk.due("behind a FAULT", x.count(11), 0);
        Desk.text(x, "false");
        x.sentence();
        Desk.due("behind a SENTENCE", x.count(11), 0);
        Desk.text(x, "or");
        x.sentence();
        Desk.due("behind its FAULT", x.count(11), 0);
        Desk.due("not as told", Desk.sale(x, 0, 9, 0, 1, 0), -1);
        Desk.due("behind a SALE that is not as told", x.count(11), 0);
        // Bytes that were there do not come back.
        Desk.text(x, "who b;who c;");
        x.law();
        Desk.due("the empty LAW", x.law(), 0);
        Desk.due("nobody", x.count(0), 0);
    }

    private static void theLawStays() {
        Desk.edge("-1 less the place of a FAULT: it stays.");
        FaceCoins x = Desk.under("who a begs;mint m 2 3;takes a a 5;lucky 1;dead 2;thin 3;faces 4;");
        x.coin(0, 100, 0);
        Desk.lawFault(x, "who b;who c owes;mint n 4 5;mint o 6 7;takes b c 1;lucky 9;dead 9;thin 9;faces 9;!", 81, 1);
        int[] counts = {1, 1, 1, 1, 2, 3, 4, 1};
        for (int i = 0; i < counts.length; i++) Desk.due("count(" + i + ")", x.count(i), counts[i]);
        Desk.due("begs", x.who(0, 0), 1);
        Desk.due("owes", x.who(0, 1), 0);
        Desk.due("loss", x.mint(0, 0), 2);
        Desk.due("blur", x.mint(0, 1), 3);
        Desk.sentenceFault(x, "held b", 5, 3);
        Desk.text(x, "held a");
        Desk.due("its NAMES", x.sentence(), 1);
        Desk.due("what could be undone", x.undo(), 0);
    }

    private static void linesOfTheLaw() {
        Desk.edge("how many LINES");
        Desk.lines("", 0);
        Desk.lines("who a;", 1);
        Desk.lines(EIGHT + FOUR + "takes a b 1;lucky 1;dead 1;thin 1;faces 1;", 17);
        StringBuilder all = new StringBuilder(EIGHT.replace(" ", "\n"));
        for (char a = 'a'; a < 'e'; a++) for (char b = 'a'; b < 'i'; b++) all.append("takes ").append(a).append(' ').append(b).append(" 9;");
        Desk.lines(all.toString(), 40);
    }

    private static void faultOfTheLatest() {
        Desk.edge("The kind of the FAULT of the latest law() or sentence(); 0 without one and ahead of any.");
        FaceCoins x = new FaceCoins();
        Desk.due("ahead of any", x.fault(), 0);
        Desk.lawFault(x, "lucky 101;", 6, 2);
        x.day();
        x.coin(0, 0, 0);
        Desk.due("by other calls it stays", x.fault(), 2);
        Desk.text(x, "false");
        Desk.due("a SENTENCE", x.sentence(), 1);
        Desk.due("without", x.fault(), 0);
        Desk.sentenceFault(x, "held a", 5, 3);
        Desk.text(x, "who a;");
        Desk.due("a LAW", x.law(), 1);
        Desk.due("without", x.fault(), 0);
        Desk.lawFault(x, EIGHT + "who", EIGHT.length(), 4);
        Desk.sentenceFault(x, "", 0, 1);
    }

    private static void newLaw() {
        Desk.edge("A new LAW: no COINS, STROKES, SENTENCE, DAY 0, nobody DEAD, all MINTS open.");
        FaceCoins x = Desk.under("who a;who b;who c;mint m 2 3;mint n 1 1;");
        x.coin(0, 100, 0);
        x.coin(1, 100, 0);
        Desk.due("sale", Desk.sale(x, 0, 1, 0, 5, 0), 0);
        x.day();
        x.steal(0, 1);
        x.dies(2, 0);
        x.close(1);
        Desk.text(x, "not false");
        x.sentence();
        Desk.text(x, "who a;who b;who c;mint m 2 3;mint n 1 1;takes a b 5;takes b a 5;");
        Desk.due("law", x.law(), 7);
        Desk.due("COINS", x.count(7), 0);
        Desk.none("of COIN 0", () -> x.of(0, 0));
        Desk.due("STROKES", x.strokes(), 0);
        Desk.none("STROKE 0", () -> x.stroke(0, 0));
        Desk.due("STROKES at m", x.mint(0, 3), 0);
        Desk.due("SALES", x.sales(), 0);
        Desk.none("SALE 0", () -> x.sold(0, 0));
        Desk.due("no SENTENCE", x.said(-1), -1);
        Desk.due("DAY", x.count(8), 0);
        for (int w = 0; w < 3; w++) Desk.due("DEAD", x.who(w, 2), 0);
        for (int m = 0; m < 2; m++) Desk.due("closed", x.mint(m, 2), 0);
        Desk.due("no die", x.count(9), -1);
        Desk.due("nobody has it", x.count(10), -1);
        for (int i = 0; i < 3; i++) Desk.due("silver", x.silver(i), 0);
        Desk.due("nothing is undone", x.undo(), -1);
        Desk.due("COIN 0 anew", x.coin(1, 60, 0), 0);
        int[] told = {58, 1, 1, 1, 0};
        for (int what = 0; what < 5; what++) Desk.due("of(0, " + what + ")", x.of(0, what), told[what]);
        Desk.due("taken as this LAW tells", x.value(0, 0, 0), 5);
        Desk.due("COINS that he has", x.who(1, 3), 1);
        Desk.due("GRAINS of these", x.who(1, 4), 58);
        Desk.due("with his FACE on top", x.who(1, 5), 1);
        Desk.due("GRAINS of all", x.silver(1), 58);
        Desk.text(x, "who a;who b;takes b a 7;");
        Desk.due("law", x.law(), 3);
        Desk.due("'takes' of it alone", x.count(2), 1);
        Desk.due("MINTS of it alone", x.count(1), 0);
        Desk.none("MINT 0", () -> x.mint(0, 0));
    }
}
