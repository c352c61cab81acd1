/** Promises 16 and 17: image, restore. */
public final class ImageTest {
    private static final Check CHECK = new Check("ImageTest");

    public static void main(String[] args) {
        noImage();
        allComesBack();
        aPendingCommandComesBack();
        whatIsInsertedComesBack();
        whatWasFullComesBack();
        sheetsAndTapeStay();
        theLatestImageCounts();
        CHECK.end();
    }

    private static void noImage() {
        ModalKeys x = Hand.after("abc", "x");
        CHECK.due("17 restore() without one", x.restore(), ModalKeys.NONE);
        CHECK.due("17 changes nothing", Hand.look(x), "bc|0|a");
        CHECK.due("16 image()", x.image(), 1);
        CHECK.due("17 restore()", x.restore(), 1);
        CHECK.due("17 as it was", Hand.look(x), "bc|0|a");
    }

    private static void allComesBack() {
        ModalKeys x = Hand.after("one two three", "wma2xrZ$md");
        x.price(3, 4);
        x.image();
        String look = Hand.look(x);
        String counts = Hand.counts(x);
        Hand.strike(x, "0dwmaxyymbylPiq!uuuuuu0dd");
        x.price(3, 9);
        x.price(1, 2);
        for (int time = 1; time <= 2; time++) {
            CHECK.due("17 restore()", x.restore(), 1);
            CHECK.due("17 the line, the cursor, the store", Hand.look(x), look);
            CHECK.due("17 the counts", Hand.counts(x), counts);
            CHECK.due("17 mark(0)", x.mark(0), 4);
            CHECK.due("17 mark(1)", x.mark(1), ModalKeys.NONE);
            CHECK.due("17 price of $", x.price(3, 4), ModalKeys.NOT);
            CHECK.due("17 price of l", x.price(1, 1), ModalKeys.NOT);
            Hand.strike(x, ".");
            CHECK.due("17 the latest change", Hand.lineOf(x), "one Z threZ");
            Hand.strike(x, "9u");
            CHECK.due("17 what can be undone", Hand.look(x), "one two three|4|tw");
            Hand.tell(x, "another");
            Hand.strike(x, "3x~~");
            Hand.tell(x, "third");
            CHECK.due("17 nothing to be undone then", x.count(6), 0);
        }
    }

    private static void aPendingCommandComesBack() {
        ModalKeys x = Hand.after("abcdefgh", "2d");
        x.image();
        Hand.strike(x, "lix!");
        x.restore();
        CHECK.due("17 begun", x.count(3), 1);
        CHECK.due("17 not whole", x.key('2'), 1);
        CHECK.due("17 whole", x.key('l'), 0);
        CHECK.due("17 both numbers", Hand.look(x), "efgh|0|abcd");
        CHECK.due("17 all its keys", x.count(8), 4);
        String[] begun = {"3", "df", "r", "m", "dt", "ya", "ci", "'", "y'", "d2"};
        String[] rest = {"x", "c", "z", "a", "c", "w", "w", "a", "a", "l"};
        for (int i = 0; i < begun.length; i++) {
            ModalKeys straight = Hand.after("ab cd", "lma0" + begun[i] + rest[i]);
            ModalKeys round = Hand.after("ab cd", "lma0" + begun[i]);
            round.image();
            Hand.tell(round, "zzz");
            round.restore();
            Hand.strike(round, rest[i]);
            CHECK.due("17 " + begun[i] + " goes on", Hand.look(round) + Hand.counts(round), Hand.look(straight) + Hand.counts(straight));
        }
    }

    private static void whatIsInsertedComesBack() {
        ModalKeys x = Hand.after("abc", "lcwxy");
        x.image();
        Hand.strike(x, "zz!ddiq!");
        x.restore();
        CHECK.due("17 one inserts", x.count(2), 1);
        CHECK.due("17 where one was", Hand.look(x), "axy|3|bc");
        Hand.strike(x, "w!");
        CHECK.due("17 on with it", Hand.look(x), "axyw|3|bc");
        CHECK.due("17 its keys", x.count(8), 6);
        Hand.strike(x, "u");
        CHECK.due("17 as ahead of the command", Hand.look(x), "abc|1|bc");
    }

    private static void whatWasFullComesBack() {
        ModalKeys x = Hand.after("a", "yl59piqr");
        x.image();
        Hand.strike(x, "qrs!");
        CHECK.due("16 FULL ones behind the image", x.count(8), 7);
        x.restore();
        Hand.strike(x, "!");
        CHECK.due("17 FULL ones ahead of the image alone", x.count(8), 4);
    }

    private static void sheetsAndTapeStay() {
        ModalKeys x = Hand.on("abc");
        Hand.write(x, 0, 2, "ll");
        x.type('q');
        x.image();
        x.type('r');
        x.drop(0);
        Hand.write(x, 1, 0, "$x");
        x.restore();
        CHECK.due("17 a dropped sheet stays so", x.drop(0), ModalKeys.NULL);
        CHECK.due("17 a written sheet stays so", x.play(1, 0, 0, 2), 0);
        CHECK.due("17 it was played", Hand.lineOf(x), "ab");
        CHECK.due("17 the tape stays", x.line(), 2);
        CHECK.due("17 with what came to it", Hand.lineOf(x), "qr");
    }

    private static void theLatestImageCounts() {
        ModalKeys x = Hand.on("abc");
        x.image();
        Hand.strike(x, "x");
        x.image();
        Hand.strike(x, "x");
        x.restore();
        CHECK.due("17 the latest", Hand.lineOf(x), "bc");
        x.line();
        x.restore();
        CHECK.due("17 more than once", Hand.lineOf(x), "bc");
    }
}
