/** Promises 36 and 37: images and what they bring back. */
public final class ImagesTest {
    private static final String LAW = "who ann;who bob;who cy;mint m 2 4;mint n 5 9;thin 20;faces 4;";

    public static void main(String[] args) {
        places();
        allIsKept();
        whatStays();
        imagesAreTheirOwn();
        throughLaws();
        Desk.close();
    }

    private static void places() {
        FaceCoins x = Desk.under(LAW);
        Desk.no("image(2)", x.image(2));
        Desk.no("image(-1)", x.image(-1));
        Desk.no("restore(0) of nothing", x.restore(0));
        Desk.no("restore(2)", x.restore(2));
        Desk.no("restore(-1)", x.restore(-1));
        Desk.yes("image(1)", x.image(1));
        Desk.no("restore(0) still", x.restore(0));
        Desk.yes("restore(1)", x.restore(1));
        Desk.yes("restore(1) again", x.restore(1));
    }

    private static FaceCoins full() {
        FaceCoins x = Desk.under(LAW);
        x.coin(0, 100, 0);
        x.coin(1, 100, 1);
        Desk.coins(x, 0);
        x.sale(0, 1, 0, 5);
        x.day();
        x.steal(1, 0);
        x.forge(1, 1);
        x.dies(2, 0);
        x.close(0);
        Desk.text(x, "false");
        x.sentence();
        return x;
    }

    private static void isFull(FaceCoins x) {
        int[] counts = {3, 2, 0, 0, 50, 20, 4, 2, 1, 0, 1};
        for (int i = 0; i < counts.length; i++) Desk.due("count(" + i + ")", x.count(i), counts[i]);
        Desk.due("sales", x.sales(), 1);
        Desk.due("sold", x.sold(0, 3), 5);
        Desk.due("strokes", x.strokes(), 4);
        Desk.due("stroke", x.stroke(2, 4), 0);
        Desk.due("forged", x.stroke(3, 5), 1);
        Desk.due("said", x.said(-1), 1);
        Desk.due("said of", x.said(0), 1);
        Desk.due("dead", x.who(2, 2), 1);
        Desk.due("closed", x.mint(0, 2), 1);
        Desk.due("grains", x.of(0, 0), 96);
        Desk.due("face", x.face(0, 1, 0), 0);
        Desk.due("depth", x.face(0, 1, 1), 5);
        Desk.due("silver", x.silver(0), 200);
    }

    private static void allIsKept() {
        FaceCoins x = full();
        x.image(0);
        isFull(x);
        Desk.text(x, "who z owes;lucky 9;faces 1;");
        x.law();
        Desk.text(x, "not false");
        x.sentence();
        x.day();
        x.restore(0);
        isFull(x);
        Desk.sentenceFault(x, "held z", 5, 3);
        Desk.text(x, "held cy");
        Desk.due("names are kept", x.sentence(), 1);
    }

    private static void whatStays() {
        FaceCoins x = full();
        x.image(0);
        Desk.due("undo goes on", x.undo(), 5);
        x.undo();
        Desk.due("payment", x.payment(1, 0, 1, 50), 90);
        int paid = x.paid(1);
        Desk.due("rows", x.rows(0, 100, 2), 1);
        Desk.lawFault(x, "who", 3, 1);
        Desk.text(x, "held");
        x.restore(0);
        Desk.due("tape", x.count(11), 4);
        Desk.due("fault", x.fault(), 1);
        Desk.due("paid", x.paid(1), paid);
        Desk.due("could", x.could(1, 0), 2);
        Desk.due("nothing is undone", x.undo(), -1);
        isFull2(x);
        x.day();
        Desk.due("but what comes then", x.undo(), 0);
    }

    private static void isFull2(FaceCoins x) {
        Desk.due("strokes", x.strokes(), 4);
        Desk.due("dead", x.who(2, 2), 1);
        Desk.due("closed", x.mint(0, 2), 1);
    }

    private static void imagesAreTheirOwn() {
        FaceCoins x = full();
        x.image(0);
        x.rob(0, 0);
        x.rob(0, 1);
        x.day();
        x.image(1);
        x.restore(0);
        isFull(x);
        x.rob(0, 0);
        x.coin(0, 90, 1);
        x.restore(0);
        isFull(x);
        x.restore(1);
        Desk.due("day", x.count(8), 2);
        Desk.due("owner", x.of(0, 1), 0);
        Desk.due("owner", x.of(1, 1), 0);
        x.image(0);
        x.day();
        x.restore(0);
        Desk.due("written over", x.count(8), 2);
        // STROKES and SALES are written behind the others: those of an image must not be of what came later.
        FaceCoins y = full();
        y.image(0);
        y.undo();
        y.undo();
        y.undo();
        y.coin(0, 77, 0);
        Desk.due("another stroke 3", y.stroke(3, 5), 0);
        y.restore(0);
        isFull(y);
        FaceCoins z = full();
        z.image(0);
        Desk.text(z, "who q;who r;mint p 1 1;thin 1;");
        z.law();
        z.coin(0, 70, 0);
        Desk.coins(z, 0);
        Desk.due("another sale 0", z.sale(0, 1, 0, 33), 0);
        Desk.due("its price", z.sold(0, 3), 33);
        Desk.due("another depth", z.face(0, 1, 1), 8);
        z.image(1);
        z.restore(0);
        isFull(z);
        z.restore(1);
        Desk.due("its price", z.sold(0, 3), 33);
        Desk.due("its depth", z.face(0, 1, 1), 8);
    }

    private static void throughLaws() {
        FaceCoins x = full();
        x.image(0);
        Desk.text(x, "");
        x.law();
        x.image(1);
        Desk.due("no people", x.count(0), 0);
        x.restore(0);
        isFull(x);
        x.restore(1);
        Desk.due("no people", x.count(0), 0);
        Desk.due("no coins", x.count(7), 0);
        Desk.due("no sentence", x.said(-1), -1);
        x.restore(0);
        isFull(x);
    }
}
