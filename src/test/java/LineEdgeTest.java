/** Where THE LINE ends: the sentences of the document that name a boundary, for promises 1 to 7. */
public final class LineEdgeTest {
    private static final Edge EDGE = new Edge("LineEdgeTest");
    private static final int MAX = Integer.MAX_VALUE;
    private static final int MIN = Integer.MIN_VALUE;
    private static final String SIXTY = State.SIXTY;
    /** What lies beside 32 .. 126, and what would be a letter if its higher bits were cut off. */
    private static final int[] NO_LETTERS = {31, 127, 0, -1, -32, -97, 128, 255, 32 + 256, 97 + 65536, MIN, MIN + 97, MAX};

    public static void main(String[] args) {
        EDGE.of("The face", "BAD = -1, NOT = -2, FULL = -3, NONE = -4, NULL = -11, CAST = -12, INDEX = -13, SIZE = -14;",
            LineEdgeTest::answersBelowZero);
        EDGE.of("Promise 1", "An empty line.", LineEdgeTest::emptyAtFirst);
        EDGE.of("Promise 2", "One letter more behind THE TAPE: how many it has.", LineEdgeTest::tapeGrowsByOne);
        EDGE.of("Promise 2", "BAD: not 32 .. 126;", LineEdgeTest::typeTakesLetters);
        EDGE.of("Promise 2", "FULL: 60.", LineEdgeTest::tapeIsFullAtSixty);
        EDGE.of("Promise 2", "of several the first that a call names", LineEdgeTest::badAheadOfFull);
        EDGE.of("Promise 3", "THE TAPE, which is empty then, is THE LINE: L.", LineEdgeTest::tapeIsTheLine);
        EDGE.of("Promise 3", "it is THE LINE, THE CURSOR is at 0; THE STORE, MARKS, what can be UNDONE, the latest CHANGE,"
            + " a COMMAND that is not whole are gone, nobody INSERTS.", LineEdgeTest::allIsGoneByALine);
        EDGE.of("Promise 3", "THE LINE is 0 to 60 LETTERS (32 .. 126), places 0, 1, ..; L is how many.",
            LineEdgeTest::lineOfEachLength);
        EDGE.of("Promise 4", "The LETTER at a place of THE LINE. BAD.", LineEdgeTest::placesOfTheLine);
        EDGE.of("Promise 5", "The LETTER at a place of THE STORE. BAD.", LineEdgeTest::placesOfTheStore);
        EDGE.of("Promise 5", "THE STORE is a row of LETTERS (none at first).", LineEdgeTest::storeOfEachLength);
        EDGE.of("Promise 6", "MARK 0 .. 3 (a .. d); NONE. BAD.", LineEdgeTest::fourMarks);
        EDGE.of("Promise 6", "MARKS a .. d are places (none at first).", LineEdgeTest::marksAreAnyPlace);
        EDGE.of("Promise 7", "8 KEYS of the latest CHANGE (0: none; above 30: 31). BAD.", LineEdgeTest::nineCounts);
        EDGE.of("Promise 7", "(0: none; above 30: 31)", LineEdgeTest::keysAboveThirty);
        EDGE.of("Promise 7", "2 whether one INSERTS (1, 0)", LineEdgeTest::whetherOneInserts);
        EDGE.of("Promise 7", "3 whether a COMMAND is begun that is not whole (1, 0)", LineEdgeTest::whetherOneIsBegun);
        EDGE.of("Promise 7", "4 LETTERS of THE STORE", LineEdgeTest::lettersOfTheStore);
        EDGE.of("Promise 7", "5 MARKS there are (a set)", LineEdgeTest::setOfMarks);
        EDGE.of("Promise 7", "6 what may be UNDONE", LineEdgeTest::whatMayBeUndone);
        EDGE.of("Promise 7", "7 WORDS (rows of LETTERS of CLASS 1 side by side)", LineEdgeTest::words);
        EDGE.of("Promise 7", "A LETTER is of a CLASS: 0 a blank; 1 a WORD's (a .. z, A .. Z, 0 .. 9); 2 another sign.",
            LineEdgeTest::classes);
        EDGE.of("Promise 7", "THE CURSOR is at a place (0 at first; L - 1 at most, 0 if L is 0; while one INSERTS: L at most).",
            LineEdgeTest::whereTheCursorMayBe);
        EDGE.of("Promise 7", "An object is used for at most 512 calls after it has been made", LineEdgeTest::theLastCall);
        EDGE.end();
    }

    private static void answersBelowZero() {
        int[] are = {ModalKeys.BAD, ModalKeys.NOT, ModalKeys.FULL, ModalKeys.NONE,
            ModalKeys.NULL, ModalKeys.CAST, ModalKeys.INDEX, ModalKeys.SIZE};
        int[] due = {-1, -2, -3, -4, -11, -12, -13, -14};
        for (int i = 0; i < due.length; i++) {
            EDGE.due("constant " + i, are[i], due[i]);
        }
    }

    private static void emptyAtFirst() {
        EDGE.due("L", new ModalKeys().count(0), 0);
        EDGE.due("THE CURSOR", new ModalKeys().count(1), 0);
        EDGE.due("what may be UNDONE", new ModalKeys().count(6), 0);
        EDGE.due("line(): THE TAPE is empty, too", new ModalKeys().line(), 0);
        EDGE.refused("letter(0)", State.fresh(), x -> x.letter(0), ModalKeys.BAD);
        EDGE.refused("store(0)", State.fresh(), x -> x.store(0), ModalKeys.BAD);
        EDGE.refused("mark(0)", State.fresh(), x -> x.mark(0), ModalKeys.NONE);
        EDGE.refused("restore()", State.fresh(), ModalKeys::restore, ModalKeys.NONE);
        EDGE.refused("drop(3)", State.fresh(), x -> x.drop(3), ModalKeys.NULL);
        EDGE.fails(State.fresh(), "x");
        EDGE.fails(State.fresh(), "u");
        EDGE.fails(State.fresh(), ".");
        ModalKeys x = new ModalKeys();
        x.type('q');
        EDGE.due("L while only THE TAPE has a letter", x.count(0), 0);
        x.line();
        EDGE.due("one inside: letter(0)", x.letter(0), 'q');
    }

    private static void tapeGrowsByOne() {
        ModalKeys x = new ModalKeys();
        for (int k = 1; k <= 60; k++) {
            EDGE.due("type as the " + k, x.type(SIXTY.charAt(k - 1)), k);
        }
        x.line();
        EDGE.due("all of them, in their order", Hand.lineOf(x), SIXTY);
        EDGE.due("type behind line()", x.type('q'), 1);
        EDGE.due("it stays while others call", x.restore(), ModalKeys.NONE);
        EDGE.due("type once more", x.type('r'), 2);
    }

    private static void typeTakesLetters() {
        for (int letter : new int[] {32, 33, 125, 126}) {
            ModalKeys x = new ModalKeys();
            EDGE.due("type(" + letter + ")", x.type(letter), 1);
            x.line();
            EDGE.due("it came", x.letter(0), letter);
        }
        for (int letter : NO_LETTERS) {
            EDGE.refusedEverywhere("type(" + letter + ")", x -> x.type(letter), ModalKeys.BAD);
        }
    }

    private static void tapeIsFullAtSixty() {
        ModalKeys x = new ModalKeys();
        EDGE.due("the 59th", Hand.tape(x, SIXTY.substring(0, 59)), 59);
        EDGE.due("the 60th", x.type('!'), 60);
        EDGE.due("the 61st", x.type('q'), ModalKeys.FULL);
        EDGE.due("the 62nd", x.type('r'), ModalKeys.FULL);
        EDGE.due("line()", x.line(), 60);
        EDGE.due("the 61st is not there", Hand.lineOf(x), SIXTY.substring(0, 59) + "!");
        EDGE.due("type behind line()", x.type('q'), 1);
        EDGE.refused("type(32)", State.fullTape(), y -> y.type(32), ModalKeys.FULL);
        EDGE.refused("type(126)", State.fullTape(), y -> y.type(126), ModalKeys.FULL);
    }

    private static void badAheadOfFull() {
        EDGE.refused("type(31)", State.fullTape(), x -> x.type(31), ModalKeys.BAD);
        EDGE.refused("type(127)", State.fullTape(), x -> x.type(127), ModalKeys.BAD);
    }

    private static void tapeIsTheLine() {
        ModalKeys x = new ModalKeys();
        for (int n : new int[] {0, 1, 2, 59, 60}) {
            Hand.tape(x, SIXTY.substring(60 - n));
            EDGE.due("line() of " + n, x.line(), n);
            EDGE.due("the line of " + n, Hand.lineOf(x), SIXTY.substring(60 - n));
            EDGE.due("letter(" + n + ")", x.letter(n), ModalKeys.BAD);
        }
        EDGE.due("line(): THE TAPE is empty then", x.line(), 0);
        EDGE.due("and THE LINE, too", Hand.lineOf(x), "");
        Hand.tape(x, "ab");
        EDGE.due("THE TAPE is no LINE ahead of line()", x.count(0), 0);
    }

    private static void allIsGoneByALine() {
        for (State state : State.everywhere()) {
            ModalKeys x = state.make();
            x.line();
            Hand.tell(x, "ab c");
            ModalKeys y = Hand.on("ab c");
            EDGE.due(state.name + ": what is seen", Twins.seen(x), Twins.seen(y));
            EDGE.due(state.name + ": u", x.key('u'), ModalKeys.NOT);
            EDGE.due(state.name + ": .", x.key('.'), ModalKeys.NOT);
            EDGE.due(state.name + ": p", x.key('p'), ModalKeys.NOT);
            EDGE.due(state.name + ": x is a COMMAND without a NUMBER", x.key('x'), 0);
            EDGE.due(state.name + ": one goes", Hand.look(x), "b c|0|a");
            EDGE.due(state.name + ": one KEY", x.count(8), 1);
            EDGE.due(state.name + ": u of it alone", Hand.strike(x, "9u"), 0);
            EDGE.due(state.name + ": undone", Hand.look(x), "ab c|0|a");
        }
        ModalKeys x = State.rich("2d").make();
        x.line();
        EDGE.due("PRICES stay", x.price(4, 7), ModalKeys.NOT);
        EDGE.due("SHEETS stay", x.drop(1), 24);
        EDGE.due("the IMAGE stays", x.restore(), 1);
        EDGE.due("as it was kept", Hand.lineOf(x), "kept INe");
    }

    private static void lineOfEachLength() {
        EDGE.due("none", Hand.on("").count(0), 0);
        EDGE.due("one", Hand.on("a").count(0), 1);
        EDGE.due("59", Hand.on(SIXTY.substring(1)).count(0), 59);
        EDGE.due("60", Hand.on(SIXTY).count(0), 60);
        EDGE.due("61 told", Hand.on(SIXTY + "q").count(0), 60);
        EDGE.due("one more by i", Hand.after(SIXTY, "iq!").count(0), 60);
        EDGE.due("the 60th by i", Hand.after(SIXTY.substring(1), "iq!").count(0), 60);
        EDGE.due("one more by p", Hand.after(SIXTY, "ylp").count(0), 60);
        EDGE.due("the 60th by p", Hand.after(SIXTY.substring(1), "ylp").count(0), 60);
        EDGE.due("none by dd", Hand.after(SIXTY, "dd").count(0), 0);
        EDGE.due("one less than none by x", Hand.after("a", "xx").count(0), 0);
        for (int letter : new int[] {32, 126}) {
            ModalKeys x = new ModalKeys();
            x.type(letter);
            x.line();
            EDGE.due("letter " + letter, x.letter(0), letter);
            EDGE.due("letter " + letter + " by r", rewritten(letter), letter);
        }
    }

    private static int rewritten(int letter) {
        ModalKeys x = Hand.after("a", "r");
        x.key(letter);
        return x.letter(0);
    }

    private static void placesOfTheLine() {
        String[] lines = {"", "a", "ab", SIXTY};
        for (String line : lines) {
            int length = line.length();
            for (int k : new int[] {-1, length, length + 1, 60, 61, MIN, MAX, 256, 65536}) {
                EDGE.refused("letter(" + k + ")", State.after(line, ""), x -> x.letter(k), ModalKeys.BAD);
            }
            if (length > 0) {
                EDGE.due("letter(0)", Hand.on(line).letter(0), line.charAt(0));
                EDGE.due("letter(L - 1)", Hand.on(line).letter(length - 1), line.charAt(length - 1));
            }
        }
        EDGE.due("letter(2) after x", Hand.after("abc", "x").letter(2), ModalKeys.BAD);
        EDGE.due("letter(1) after x", Hand.after("abc", "x").letter(1), 'c');
        EDGE.due("letter(L) while one INSERTS there", Hand.after("abc", "A").letter(3), ModalKeys.BAD);
        EDGE.due("letter(3) behind one more", Hand.after("abc", "Aq").letter(3), 'q');
        EDGE.due("letter(4) behind one more", Hand.after("abc", "Aq").letter(4), ModalKeys.BAD);
    }

    private static void placesOfTheStore() {
        String[] lines = {"a", "ab", SIXTY};
        for (String line : lines) {
            int length = line.length();
            State state = State.after(line, "yy");
            for (int k : new int[] {-1, length, length + 1, 60, 61, MIN, MAX}) {
                EDGE.refused("store(" + k + ")", state, x -> x.store(k), ModalKeys.BAD);
            }
            EDGE.due("store(0)", state.make().store(0), line.charAt(0));
            EDGE.due("the last", state.make().store(length - 1), line.charAt(length - 1));
        }
        EDGE.due("of a shorter one: the last", Hand.after("abcd", "yy2x").store(1), 'b');
        EDGE.due("of a shorter one: one beyond", Hand.after("abcd", "yy2x").store(2), ModalKeys.BAD);
    }

    private static void storeOfEachLength() {
        EDGE.refused("store(0)", State.fresh(), x -> x.store(0), ModalKeys.BAD);
        EDGE.refused("store(0) of a line", State.after("abc", ""), x -> x.store(0), ModalKeys.BAD);
        EDGE.due("none by moving", Hand.storeOf(Hand.after("abc", "l$0")), "");
        EDGE.due("one", Hand.storeOf(Hand.after("abc", "x")), "a");
        EDGE.due("59", Hand.storeOf(Hand.after(SIXTY, "59x")), SIXTY.substring(0, 59));
        EDGE.due("60", Hand.storeOf(Hand.after(SIXTY, "60x")), SIXTY);
        EDGE.due("61 asked", Hand.storeOf(Hand.after(SIXTY, "61x")), SIXTY);
    }

    private static void fourMarks() {
        for (int k : new int[] {-1, 4, 5, 'a', 'd', MIN, MAX}) {
            EDGE.refusedEverywhere("mark(" + k + ")", x -> x.mark(k), ModalKeys.BAD);
        }
        for (int set = 0; set < 4; set++) {
            State state = State.after("abcdef", "3lm" + (char) ('a' + set));
            for (int k = 0; k < 4; k++) {
                int asked = k;
                if (k == set) {
                    EDGE.due(state.name + ": mark(" + k + ")", state.make().mark(k), 3);
                } else {
                    EDGE.refused("mark(" + k + ")", state, x -> x.mark(asked), ModalKeys.NONE);
                }
            }
        }
    }

    private static void marksAreAnyPlace() {
        EDGE.due("none at first", new ModalKeys().count(5), 0);
        EDGE.due("at 0 of an empty line", Hand.after("", "ma").mark(0), 0);
        EDGE.due("at 0", Hand.after("ab", "ma").mark(0), 0);
        EDGE.due("at L - 1", Hand.after("ab", "$ma").mark(0), 1);
        EDGE.due("at 58", Hand.after(SIXTY, "58lmd").mark(3), 58);
        EDGE.due("at 59", Hand.after(SIXTY, "59lmd").mark(3), 59);
        EDGE.due("at 59 once THE LINE is empty", Hand.after(SIXTY, "59lmddd").mark(3), 59);
        EDGE.due("set once more", Hand.after("abc", "ma$ma").mark(0), 2);
    }

    private static void nineCounts() {
        for (int what : new int[] {-1, 9, 10, -9, 256, MIN, MAX}) {
            EDGE.refusedEverywhere("count(" + what + ")", x -> x.count(what), ModalKeys.BAD);
        }
        ModalKeys x = Hand.after("ab cd", "wmbxP2~");
        int[] due = {5, 4, 0, 0, 1, 2, 3, 2, 2};
        for (int what = 0; what <= 8; what++) {
            EDGE.due("count(" + what + ")", x.count(what), due[what]);
        }
    }

    private static void keysAboveThirty() {
        EDGE.due("none at first", Hand.on("abc").count(8), 0);
        EDGE.due("none by what is no CHANGE", Hand.after("abc", "yldhlmaqu").count(8), 0);
        EDGE.due("one", Hand.after("abc", "x").count(8), 1);
        for (int n : new int[] {2, 3, 29, 30}) {
            EDGE.due(n + " keys", Hand.after("", "i" + SIXTY.substring(0, n - 2) + "!").count(8), n);
        }
        for (int n : new int[] {31, 32, 33, 61, 62}) {
            EDGE.due(n + " keys", Hand.after("", "i" + SIXTY.substring(0, n - 2) + "!").count(8), 31);
        }
        EDGE.due("29 figures and x", Hand.after("abc", "1".repeat(29) + "x").count(8), 30);
        EDGE.due("30 figures and x", Hand.after("abc", "1".repeat(30) + "x").count(8), 31);
        EDGE.due("31 figures and x", Hand.after("abc", "1".repeat(31) + "x").count(8), 31);
        EDGE.due("few keys behind many", Hand.after("abc", "1".repeat(31) + "xux").count(8), 1);
    }

    private static void whetherOneInserts() {
        EDGE.due("not at first", Hand.on("ab").count(2), 0);
        EDGE.due("from i on", Hand.after("ab", "i").count(2), 1);
        EDGE.due("with a letter", Hand.after("ab", "iq").count(2), 1);
        EDGE.due("till !", Hand.after("ab", "iq!").count(2), 0);
        EDGE.due("not yet by c", Hand.after("ab", "c").count(2), 0);
        EDGE.due("by cl", Hand.after("ab", "cl").count(2), 1);
        EDGE.due("not by cfz", Hand.after("ab", "cfz").count(2), 0);
        EDGE.due("while L is 60", Hand.after(SIXTY, "iq").count(2), 1);
    }

    private static void whetherOneIsBegun() {
        String[] begun = {"1", "99", "2d", "2d3", "df", "di", "r", "m", "'", "y'"};
        for (String keys : begun) {
            EDGE.due(keys + " is begun", Hand.after("ab", keys).count(3), 1);
        }
        String[] ended = {"", "0", "l", "2l", "dl", "dfz", "diq", "rq", "ma", "'q", "q", "3q", "i", "iq", "iq!"};
        for (String keys : ended) {
            EDGE.due("\"" + keys + "\" is not begun", Hand.after("ab", keys).count(3), 0);
        }
    }

    private static void lettersOfTheStore() {
        EDGE.counts("ab", "", 4, 0);
        EDGE.counts("ab", "x", 4, 1);
        EDGE.counts(SIXTY, "d58l", 4, 58);
        EDGE.counts(SIXTY, "d59l", 4, 59);
        EDGE.counts(SIXTY, "d60l", 4, 60);
        EDGE.counts(SIXTY, "d61l", 4, 60);
    }

    private static void setOfMarks() {
        String[] keys = {"", "ma", "mb", "mamb", "mc", "md", "mamd", "mambmcmd", "mamama", "me", "m`"};
        int[] due = {0, 1, 2, 3, 4, 8, 9, 15, 1, 0, 0};
        for (int i = 0; i < keys.length; i++) {
            EDGE.counts("ab", keys[i], 5, due[i]);
        }
    }

    private static void whatMayBeUndone() {
        for (int n : new int[] {0, 1, 7, 8}) {
            EDGE.counts(SIXTY, "x".repeat(n), 6, n);
        }
        EDGE.counts(SIXTY, "x".repeat(9), 6, 8);
        EDGE.counts(SIXTY, "x".repeat(17), 6, 8);
        EDGE.counts(SIXTY, "x".repeat(9) + "u", 6, 7);
        EDGE.counts(SIXTY, "x".repeat(9) + "7u", 6, 1);
        EDGE.counts(SIXTY, "x".repeat(9) + "8u", 6, 0);
        EDGE.counts(SIXTY, "x".repeat(9) + "9u", 6, 0);
    }

    private static void words() {
        String thirty = "a ".repeat(30);
        String[] lines = {"", " ", ";", "a", "ab", " a ", "a b", "a;b", "a;", thirty, thirty.substring(1), SIXTY};
        int[] due = {0, 0, 0, 1, 1, 1, 2, 2, 1, 30, 29, 1};
        for (int i = 0; i < lines.length; i++) {
            EDGE.counts(lines[i], "", 7, due[i]);
        }
    }

    /** Each letter beside one of CLASS 1, and alone: w, iw and the number of words tell its CLASS. */
    private static void classes() {
        String inside = "abyzABYZ0189";
        String beside = "`{@[/:!~_.";
        for (int letter = 32; letter <= 126; letter++) {
            char c = (char) letter;
            boolean word = c >= 'a' && c <= 'z' || c >= 'A' && c <= 'Z' || c >= '0' && c <= '9';
            EDGE.due("words of " + c, Hand.on(" " + c).count(7), word ? 1 : 0);
            EDGE.due("w from q" + c, Hand.on("q" + c).leads(4, 0), word || c == ' ' ? 2 : 1);
            EDGE.due("w from ;" + c, Hand.on(";" + c).leads(4, 0), !word ? 2 : 1);
            EDGE.due("b from " + c + "q", Hand.on(c + "q").leads(5, 1), 0);
            EDGE.due("b from " + c + "qq", Hand.on(c + "qq").leads(5, 2), word ? 0 : 1);
            EDGE.due("diw of " + c + " and blanks", Hand.lineOf(Hand.after("  " + c + "  ", "2ldiw")), c == ' ' ? "" : "    ");
        }
        for (int i = 0; i < inside.length(); i++) {
            EDGE.due("CLASS 1: " + inside.charAt(i), Hand.on("" + inside.charAt(i)).count(7), 1);
        }
        for (int i = 0; i < beside.length(); i++) {
            EDGE.due("CLASS 2: " + beside.charAt(i), Hand.on("" + beside.charAt(i)).count(7), 0);
        }
    }

    private static void whereTheCursorMayBe() {
        EDGE.due("0 at first", new ModalKeys().count(1), 0);
        EDGE.due("0 at first, in a line", Hand.on("abc").count(1), 0);
        EDGE.due("0 if L is 0", Hand.after("abc", "$dd").count(1), 0);
        EDGE.due("0 if L is 0, by l", Hand.after("", "l").count(1), 0);
        String[] toTheLast = {"$", "2l", "3l", "99l", "w", "e", "9~", "l9~", "yl$p", "$x$", "3rq", "Aq!", "$ma'a", "A!"};
        int[] last = {2, 2, 2, 2, 2, 2, 2, 2, 3, 1, 2, 3, 2, 2};
        for (int i = 0; i < toTheLast.length; i++) {
            EDGE.stands("abc", toTheLast[i], last[i]);
        }
        EDGE.stands("abc", "l", 1);
        EDGE.stands("abc", "$x", 1);
        EDGE.stands("abc", "ld$", 0);
        EDGE.stands("abc", "$maxx'a", 0);
        EDGE.stands("abc", "A", 3);
        EDGE.stands("abc", "Aq", 4);
        EDGE.stands("abc", "$a", 3);
        EDGE.stands("abc", "$i", 2);
        EDGE.stands("abc", "lc$", 1);
        EDGE.stands("", "A", 0);
        EDGE.stands("", "a", 0);
        EDGE.stands(SIXTY, "A", 60);
        EDGE.stands(SIXTY, "Aq", 60);
        EDGE.stands(SIXTY, "Aq!", 59);
        EDGE.stands("abc", "$xu", 2);
    }

    private static void theLastCall() {
        ModalKeys x = Hand.on("abc");
        for (int call = 5; call <= 510; call++) {
            x.key(call % 2 == 0 ? 'h' : 'l');
        }
        EDGE.due("the 511th: x", x.key('x'), 0);
        EDGE.due("the 512th: letter(0)", x.letter(0), 'b');
    }
}
