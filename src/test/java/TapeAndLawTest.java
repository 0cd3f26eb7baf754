/** Promises 1 to 7 and 38: the new object, the tape, the LAW and its FAULTS, PEOPLE and MINTS as told. */
public final class TapeAndLawTest {
    public static void main(String[] args) {
        newObject();
        tape();
        laws();
        faultsOfTokens();
        faultsOfNumbers();
        faultsOfNames();
        faultsOfMany();
        longTexts();
        lawStaysAtFault();
        newLawForgets();
        Desk.close();
    }

    private static void newObject() {
        FaceCoins x = new FaceCoins();
        int[] counts = {0, 0, 0, 0, 50, 50, 5, 0, 0, -1, -1, 0};
        for (int i = 0; i < counts.length; i++) Desk.due("new count(" + i + ")", x.count(i), counts[i]);
        Desk.due("count(12)", x.count(12), -1);
        Desk.due("count(-1)", x.count(-1), -1);
        Desk.due("count(min)", x.count(Integer.MIN_VALUE), -1);
        Desk.due("new fault", x.fault(), 0);
        Desk.none("new who", () -> x.who(0, 0));
        Desk.none("new mint", () -> x.mint(0, 0));
    }

    private static void tape() {
        FaceCoins x = new FaceCoins();
        Desk.no("end past the tape", x.end(1));
        Desk.yes("end(0) of none", x.end(0));
        for (int i = 1; i <= 37; i++) Desk.due("feed " + i, x.feed(1, 2, 3, 4, 5), 20 * i);
        Desk.due("feed past 740", x.feed(1, 2, 3, 4, 5), -1);
        Desk.due("bytes then", x.count(11), 740);
        Desk.no("end(741)", x.end(741));
        Desk.no("end(-1)", x.end(-1));
        Desk.yes("end(740)", x.end(740));
        Desk.yes("end(721)", x.end(721));
        Desk.due("feed to 741", x.feed(0, 0, 0, 0, 0), -1);
        Desk.yes("end(720)", x.end(720));
        Desk.due("feed to 740", x.feed(0, 0, 0, 0, 0), 740);
        Desk.due("law of others", x.law(), -1);
        Desk.due("tape behind law", x.count(11), 0);
        // The highest byte of each number comes first, through all five of them.
        x.feed(0x77686F20, 0x61623B77, 0x686F2063, 0x20626567, 0x733B2020);
        Desk.due("law over five numbers", x.law(), 2);
        Desk.due("begs by the fifth number", x.who(1, 0), 1);
    }

    private static void laws() {
        FaceCoins x = Desk.under("who ann begs owes;who\nbob owes ;who cy begs;who d;mint m 1 9;mint n 50 1;"
            + "takes ann bob 0;takes bob ann 200;takes d d 7;lucky 100;dead 200;thin 999;faces 9;");
        int[] counts = {4, 2, 3, 100, 200, 999, 9};
        for (int i = 0; i < counts.length; i++) Desk.due("count(" + i + ")", x.count(i), counts[i]);
        int[][] told = {{1, 1}, {0, 1}, {1, 0}, {0, 0}};
        for (int w = 0; w < 4; w++) {
            Desk.due("begs " + w, x.who(w, 0), told[w][0]);
            Desk.due("owes " + w, x.who(w, 1), told[w][1]);
            Desk.due("DEAD " + w, x.who(w, 2), 0);
        }
        Desk.due("loss 0", x.mint(0, 0), 1);
        Desk.due("blur 0", x.mint(0, 1), 9);
        Desk.due("loss 1", x.mint(1, 0), 50);
        Desk.due("blur 1", x.mint(1, 1), 1);
        Desk.none("who(4, 0)", () -> x.who(4, 0));
        Desk.none("who(-1, 0)", () -> x.who(-1, 0));
        Desk.none("who(0, 6)", () -> x.who(0, 6));
        Desk.none("who(0, -1)", () -> x.who(0, -1));
        Desk.none("mint(2, 0)", () -> x.mint(2, 0));
        Desk.none("mint(-1, 0)", () -> x.mint(-1, 0));
        Desk.none("mint(0, 4)", () -> x.mint(0, 4));
        Desk.none("mint(0, -1)", () -> x.mint(0, -1));
        FaceCoins least = Desk.under("lucky 0;dead 0;thin 1;faces 0001;mint abcdef 1 1;");
        Desk.due("lucky least", least.count(3), 0);
        Desk.due("dead least", least.count(4), 0);
        Desk.due("thin least", least.count(5), 1);
        Desk.due("faces least", least.count(6), 1);
        FaceCoins empty = Desk.under("");
        Desk.text(empty, " \n ");
        Desk.due("blanks alone", empty.law(), 0);
        FaceCoins alike = Desk.under("who a;who aa;who ab;who b;who ba;who abcdef;who bcdef;mint aaa 1 1;takes ab b 5;");
        Desk.due("names that are nearly alike", alike.count(0), 7);
        FaceCoins tight = new FaceCoins();
        Desk.text(tight, "who a;who b;takes a b 5;lucky 1;");
        Desk.due("lines", tight.law(), 4);
    }

    private static void faultsOfTokens() {
        FaceCoins x = new FaceCoins();
        Desk.lawFault(new FaceCoins(), "toolong", 0, 1);
        Desk.lawFault(x, "who a", 5, 1);
        Desk.lawFault(x, "who a  ", 7, 1);
        Desk.lawFault(x, "who", 3, 1);
        Desk.lawFault(x, ";", 0, 1);
        Desk.lawFault(x, "who a;;", 6, 1);
        Desk.lawFault(x, "who a owes begs;", 11, 1);
        Desk.lawFault(x, "who a begs begs;", 11, 1);
        Desk.lawFault(x, "who abcdefg;", 4, 1);
        Desk.lawFault(x, "who a1;", 4, 1);
        Desk.lawFault(x, "who 1;", 4, 1);
        Desk.lawFault(x, "who A;", 4, 1);
        Desk.lawFault(x, "who\ta;", 3, 1);
        Desk.lawFault(x, "who a.", 5, 1);
        Desk.lawFault(x, "whoa;", 0, 1);
        Desk.lawFault(x, "lucky 00001;", 6, 1);
        Desk.lawFault(x, "lucky 1a;", 6, 1);
        Desk.lawFault(x, "lucky a;", 6, 1);
        Desk.lawFault(x, "lucky ;", 6, 1);
        Desk.lawFault(x, "mint m 1;", 8, 1);
        Desk.lawFault(x, "mint m 1 1 1;", 11, 1);
        Desk.lawFault(x, "who a;takes who a 1;", 12, 1);
        Desk.lawFault(x, "who a;takes a mint 1;", 14, 1);
        Desk.lawFault(x, "who a;takes a 1;", 14, 1);
        Desk.lawFault(x, "who a;takes a a;", 15, 1);
        Desk.lawFault(x, "lucky (1);", 6, 1);
        Desk.lawFault(x, "who " + (char) 225 + ";", 4, 1);
        String[] told = {"who", "begs", "owes", "mint", "takes", "lucky", "dead", "thin", "faces", "or", "and", "not",
            "bears", "shows", "held", "false", "grains", "layers", "struck"};
        for (String word : told) {
            Desk.lawFault(x, "who " + word + ";", 4, 1);
            Desk.lawFault(x, "mint " + word + " 1 1;", 5, 1);
        }
        String[] free = {"wh", "begsx", "layer", "struc", "no", "nott", "o", "an", "zzzzzz", "grain"};
        for (String word : free) {
            Desk.text(x, "who " + word + ";");
            Desk.due("who " + word, x.law(), 1);
        }
    }

    private static void faultsOfNumbers() {
        FaceCoins x = new FaceCoins();
        Desk.lawFault(x, "lucky 101;", 6, 2);
        Desk.lawFault(x, "dead 201;", 5, 2);
        Desk.lawFault(x, "thin 0;", 5, 2);
        Desk.lawFault(x, "thin 1000;", 5, 2);
        Desk.lawFault(x, "faces 0;", 6, 2);
        Desk.lawFault(x, "faces 10;", 6, 2);
        Desk.lawFault(x, "mint m 0 1;", 7, 2);
        Desk.lawFault(x, "mint m 51 1;", 7, 2);
        Desk.lawFault(x, "mint m 5 0;", 9, 2);
        Desk.lawFault(x, "mint m 5 10;", 9, 2);
        Desk.lawFault(x, "who a;takes a a 201;", 16, 2);
        Desk.lawFault(x, "mint m 51 !;", 7, 2);
    }

    private static void faultsOfNames() {
        FaceCoins x = new FaceCoins();
        Desk.lawFault(x, "who a;who a;", 10, 3);
        Desk.lawFault(x, "who a;mint a 1 1;", 11, 3);
        Desk.lawFault(x, "mint a 1 1;mint a 1 1;", 16, 3);
        Desk.lawFault(x, "mint a 1 1;who a;", 15, 3);
        Desk.lawFault(x, "takes a a 1;who a;", 6, 3);
        Desk.lawFault(x, "who a;takes a b 1;", 14, 3);
        Desk.lawFault(x, "who a;mint m 1 1;takes m a 1;", 23, 3);
        Desk.lawFault(x, "who a;mint m 1 1;takes a m 1;", 25, 3);
        Desk.lawFault(x, "who a;who b;takes a b 1;takes b a 1;takes a b 1;", 44, 3);
        Desk.lawFault(x, "lucky 1;lucky 1;", 8, 3);
        Desk.lawFault(x, "dead 1;dead ;", 7, 3);
        Desk.lawFault(x, "thin 1;thin 0;", 7, 3);
        Desk.lawFault(x, "faces 1;faces 99;", 8, 3);
        Desk.lawFault(x, "who a;takes a a 300;takes a a 1;", 16, 2);
    }

    private static void faultsOfMany() {
        FaceCoins x = new FaceCoins();
        StringBuilder people = new StringBuilder();
        for (char c = 'a'; c < 'i'; c++) people.append("who ").append(c).append(';');
        Desk.text(x, people.toString());
        Desk.due("eight", x.law(), 8);
        Desk.lawFault(x, people + "who i;", people.length(), 4);
        Desk.lawFault(x, people + " who a;", people.length() + 1, 4);
        Desk.lawFault(x, people + "who", people.length(), 4);
        StringBuilder mints = new StringBuilder();
        for (char c = 'a'; c < 'e'; c++) mints.append("mint ").append(c).append(" 1 1;");
        Desk.text(x, mints.toString());
        Desk.due("four", x.law(), 4);
        Desk.lawFault(x, mints + "mint e 1 1;", mints.length(), 4);
        Desk.due("mints stay four", x.count(1), 4);
    }

    private static void longTexts() {
        FaceCoins x = new FaceCoins();
        String law = "who a;";
        Desk.text(x, law + " ".repeat(694));
        Desk.due("700 bytes", x.law(), 1);
        Desk.lawFault(x, law + " ".repeat(695), 700, 1);
        Desk.lawFault(x, " ".repeat(700) + law, 700, 1);
        Desk.lawFault(x, " ".repeat(694) + law + "!", 700, 1);
        Desk.lawFault(x, " ".repeat(697) + "who b;", 700, 1);
        Desk.lawFault(x, " ".repeat(699) + "whoever;", 699, 1);
        Desk.lawFault(x, " ".repeat(699) + "who a;", 700, 1);
        Desk.lawFault(x, " ".repeat(699) + "lucky;", 700, 1);
        Desk.lawFault(x, " ".repeat(692) + "lucky 101;", 698, 2);
        Desk.lawFault(x, " ".repeat(693) + "lucky 101;", 699, 2);
        Desk.lawFault(x, " ".repeat(694) + "lucky 101;", 700, 1);
        Desk.lawFault(x, " ".repeat(694) + "lucky", 699, 1);
        Desk.lawFault(x, "who a;who a;" + " ".repeat(720), 10, 3);
        Desk.lawFault(new FaceCoins(), " ".repeat(701), 700, 1);
    }

    private static void lawStaysAtFault() {
        FaceCoins x = Desk.under("who a;mint m 2 3;thin 20;");
        x.coin(0, 100, 0);
        Desk.lawFault(x, "who b;who c;who d;lucky 5;thin 30;who e", 39, 1);
        Desk.due("people stay", x.count(0), 1);
        Desk.due("lucky stays", x.count(3), 0);
        Desk.due("thin stays", x.count(5), 20);
        Desk.due("coins stay", x.count(7), 1);
        Desk.due("acts stay", x.undo(), 0);
        Desk.text(x, "");
        Desk.due("empty law", x.law(), 0);
        Desk.due("no fault", x.fault(), 0);
        Desk.due("without people", x.count(0), 0);
        Desk.due("thin without", x.count(5), 50);
    }

    private static void newLawForgets() {
        String law = "who a;who b;who c;mint m 2 3;thin 20;";
        FaceCoins x = Desk.under(law + "takes a b 99;lucky 3;dead 4;faces 7;");
        x.coin(0, 100, 0);
        x.coin(0, 100, 0);
        Desk.coins(x, 0);
        Desk.due("sale", x.sale(0, 1, 0, 5), 0);
        Desk.text(x, "false");
        x.sentence();
        x.day();
        x.steal(0, 1);
        x.dies(2, 0);
        x.close(0);
        Desk.text(x, law);
        Desk.due("law again", x.law(), 5);
        Desk.due("coins", x.count(7), 0);
        Desk.due("day", x.count(8), 0);
        Desk.due("die", x.count(9), -1);
        Desk.due("thief", x.count(10), -1);
        Desk.due("strokes", x.strokes(), 0);
        Desk.due("sales", x.sales(), 0);
        Desk.due("said", x.said(-1), -1);
        Desk.due("dead", x.who(2, 2), 0);
        Desk.due("closed", x.mint(0, 2), 0);
        Desk.due("strokes at the mint", x.mint(0, 3), 0);
        Desk.due("silver made", x.silver(0), 0);
        Desk.due("silver now", x.silver(1), 0);
        Desk.due("coins that he has", x.who(0, 3), 0);
        Desk.due("grains of these", x.who(0, 4), 0);
        Desk.due("his face on top", x.who(1, 5), 0);
        Desk.due("takes", x.count(2), 0);
        Desk.due("lucky", x.count(3), 0);
        Desk.due("dead", x.count(4), 50);
        Desk.due("faces", x.count(6), 5);
        Desk.due("undo", x.undo(), -1);
        Desk.due("a first coin", x.coin(1, 60, 0), 0);
        Desk.due("its strokes", x.of(0, 3), 1);
        Desk.due("its faces", x.of(0, 2), 1);
        Desk.due("silver now", x.silver(1), 58);
        Desk.due("taken at", x.value(0, 0, 0), 100);
    }
}
