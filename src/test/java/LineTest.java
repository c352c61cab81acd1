/** Promises 1 to 7: a new object, type, line, letter, store, mark, count. */
public final class LineTest {
    private static final Check CHECK = new Check("LineTest");
    private static final String SIXTY = "abcdefghijklmnopqrstuvwxyzabcdefghijklmnopqrstuvwxyz01234567";

    public static void main(String[] args) {
        constants();
        promise1();
        promise2();
        promise3();
        promise4();
        promise5();
        promise6();
        promise7();
        wordsAreRowsOfLettersAndFigures();
        CHECK.end();
    }

    private static void constants() {
        int[] are = {ModalKeys.BAD, ModalKeys.NOT, ModalKeys.FULL, ModalKeys.NONE,
            ModalKeys.NULL, ModalKeys.CAST, ModalKeys.INDEX, ModalKeys.SIZE};
        int[] due = {-1, -2, -3, -4, -11, -12, -13, -14};
        for (int i = 0; i < due.length; i++) {
            CHECK.due("constant " + i, are[i], due[i]);
        }
    }

    private static void promise1() {
        ModalKeys x = new ModalKeys();
        for (int what = 0; what <= 8; what++) {
            CHECK.due("1 new: count(" + what + ")", x.count(what), 0);
        }
        CHECK.due("1 new: letter(0)", x.letter(0), ModalKeys.BAD);
        CHECK.due("1 new: store(0)", x.store(0), ModalKeys.BAD);
        CHECK.due("1 new: mark(0)", x.mark(0), ModalKeys.NONE);
        CHECK.due("1 new: restore()", x.restore(), ModalKeys.NONE);
        CHECK.due("1 new: price(0, 1)", x.price(0, 1), ModalKeys.NOT);
        CHECK.due("1 new: price(6, 1)", x.price(6, 1), ModalKeys.NOT);
        for (int sheet = 0; sheet < 4; sheet++) {
            CHECK.due("1 new: drop(" + sheet + ")", x.drop(sheet), ModalKeys.NULL);
        }
        CHECK.due("1 new: line()", x.line(), 0);
    }

    private static void promise2() {
        ModalKeys x = new ModalKeys();
        CHECK.due("2 type(31)", x.type(31), ModalKeys.BAD);
        CHECK.due("2 type(127)", x.type(127), ModalKeys.BAD);
        CHECK.due("2 type(-97)", x.type(-97), ModalKeys.BAD);
        for (int k = 1; k <= 60; k++) {
            CHECK.due("2 type as the " + k, x.type(k % 2 == 0 ? 32 : 126), k);
        }
        CHECK.due("2 type(97) as the 61st", x.type(97), ModalKeys.FULL);
        CHECK.due("2 type(31) as the 61st", x.type(31), ModalKeys.BAD);
        CHECK.due("2 the line is no tape", x.count(0), 0);
        CHECK.due("2 line()", x.line(), 60);
        CHECK.due("2 type behind line()", x.type(97), 1);
        CHECK.due("2 the line stays", x.count(0), 60);
    }

    private static void promise3() {
        ModalKeys x = Hand.after("one two", "wmaxx3lrZ2d");
        x.price(4, 7);
        x.image();
        CHECK.due("3 pending ahead", x.count(3), 1);
        x.type('q');
        CHECK.due("3 line()", x.line(), 1);
        CHECK.due("3 the line", Hand.look(x), "q|0|");
        int[] due = {1, 0, 0, 0, 0, 0, 0, 1, 0};
        for (int what = 0; what < due.length; what++) {
            CHECK.due("3 count(" + what + ")", x.count(what), due[what]);
        }
        CHECK.due("3 u fails", x.key('u'), ModalKeys.NOT);
        CHECK.due("3 . fails", x.key('.'), ModalKeys.NOT);
        CHECK.due("3 prices stay", x.price(4, 7), ModalKeys.NOT);
        CHECK.due("3 the image stays", x.restore(), 1);
        x = Hand.after("abc", "lia");
        CHECK.due("3 line() of an empty tape", x.line(), 0);
        CHECK.due("3 nobody inserts", x.count(2), 0);
        CHECK.due("3 key(x) is a command then", x.key('x'), ModalKeys.NOT);
        CHECK.due("3 the number is gone", Hand.strike(twoThenLine(), "x"), 0);
        CHECK.due("3 only one goes", Hand.lineOf(afterTwoThenLine()), "bc");
    }

    private static ModalKeys twoThenLine() {
        ModalKeys x = Hand.after("abc", "2");
        Hand.tell(x, "abc");
        return x;
    }

    private static ModalKeys afterTwoThenLine() {
        ModalKeys x = twoThenLine();
        x.key('x');
        return x;
    }

    private static void promise4() {
        ModalKeys x = Hand.on("a ~");
        CHECK.due("4 letter(0)", x.letter(0), 'a');
        CHECK.due("4 letter(1)", x.letter(1), ' ');
        CHECK.due("4 letter(2)", x.letter(2), '~');
        CHECK.due("4 letter(3)", x.letter(3), ModalKeys.BAD);
        CHECK.due("4 letter(-1)", x.letter(-1), ModalKeys.BAD);
        CHECK.due("4 letter(60)", Hand.on(SIXTY).letter(60), ModalKeys.BAD);
        CHECK.due("4 letter(59)", Hand.on(SIXTY).letter(59), '7');
        Hand.strike(x, "x");
        CHECK.due("4 letter(2) after x", x.letter(2), ModalKeys.BAD);
    }

    private static void promise5() {
        ModalKeys x = Hand.after("abcd", "y3l");
        CHECK.due("5 store(0)", x.store(0), 'a');
        CHECK.due("5 store(2)", x.store(2), 'c');
        CHECK.due("5 store(3)", x.store(3), ModalKeys.BAD);
        CHECK.due("5 store(-1)", x.store(-1), ModalKeys.BAD);
        Hand.strike(x, "x");
        CHECK.due("5 store(0) after x", x.store(0), 'a');
        CHECK.due("5 store(1) after x", x.store(1), ModalKeys.BAD);
        CHECK.due("5 all sixty", Hand.storeOf(Hand.after(SIXTY, "dd")), SIXTY);
    }

    private static void promise6() {
        ModalKeys x = Hand.after("abcdefgh", "3lma$mdmb0mb");
        CHECK.due("6 mark(0)", x.mark(0), 3);
        CHECK.due("6 mark(1)", x.mark(1), 0);
        CHECK.due("6 mark(2)", x.mark(2), ModalKeys.NONE);
        CHECK.due("6 mark(3)", x.mark(3), 7);
        CHECK.due("6 mark(4)", x.mark(4), ModalKeys.BAD);
        CHECK.due("6 mark(-1)", x.mark(-1), ModalKeys.BAD);
        Hand.strike(x, "dd");
        CHECK.due("6 a mark is a place, whatever goes", x.mark(3), 7);
        Hand.strike(x, "u");
        CHECK.due("6 a mark stays when undone", x.mark(0), 3);
    }

    private static void promise7() {
        ModalKeys x = Hand.after("ab c, d9", "wma$mc");
        CHECK.due("7 L", x.count(0), 8);
        CHECK.due("7 cursor", x.count(1), 7);
        CHECK.due("7 marks", x.count(5), 5);
        CHECK.due("7 words", x.count(7), 3);
        Hand.strike(x, "2");
        CHECK.due("7 a number is a beginning", x.count(3), 1);
        Hand.strike(x, "x");
        CHECK.due("7 whole", x.count(3), 0);
        CHECK.due("7 store", x.count(4), 1);
        CHECK.due("7 undoable", x.count(6), 1);
        CHECK.due("7 keys", x.count(8), 2);
        Hand.strike(x, "Azz");
        CHECK.due("7 inserts", x.count(2), 1);
        CHECK.due("7 who inserts has no command begun", x.count(3), 0);
        CHECK.due("7 cursor at L", x.count(1), 9);
        CHECK.due("7 not undoable till !", x.count(6), 1);
        CHECK.due("7 no latest change till !", x.count(8), 2);
        Hand.strike(x, "!");
        CHECK.due("7 undoable", x.count(6), 2);
        CHECK.due("7 keys with !", x.count(8), 4);
        CHECK.due("7 count(9)", x.count(9), ModalKeys.BAD);
        CHECK.due("7 count(-1)", x.count(-1), ModalKeys.BAD);
        CHECK.due("7 30 keys", Hand.after("", "i" + SIXTY.substring(0, 28) + "!").count(8), 30);
        CHECK.due("7 31 keys", Hand.after("", "i" + SIXTY.substring(0, 29) + "!").count(8), 31);
        CHECK.due("7 62 keys", Hand.after("", "i" + SIXTY + "!").count(8), 31);
        CHECK.due("7 eight deeds are known", Hand.after(SIXTY, "xxxxxxxxxxx").count(6), 8);
    }

    private static void wordsAreRowsOfLettersAndFigures() {
        String[] lines = {"", " ", "a", "a b", "a,b", "aZ9", "  a  ", "@[`{/:", "9.9", "a_b", "Z z 0", "A z 9"};
        int[] due = {0, 0, 1, 2, 2, 1, 1, 0, 2, 2, 3, 3};
        for (int i = 0; i < lines.length; i++) {
            CHECK.due("7 words of \"" + lines[i] + "\"", Hand.on(lines[i]).count(7), due[i]);
        }
    }
}
