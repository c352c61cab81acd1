/** Where KEYS end: the sentences of the document that name a boundary of a COMMAND, for promise 8. */
public final class KeyEdgeTest {
    private static final Edge EDGE = new Edge("KeyEdgeTest");
    private static final int MAX = Integer.MAX_VALUE;
    private static final int MIN = Integer.MIN_VALUE;
    private static final String SIXTY = State.SIXTY;
    private static final String MOTIONS = "hl0$wbeft'";

    public static void main(String[] args) {
        answers();
        numbers();
        deeds();
        inserting();
        changes();
        EDGE.end();
    }

    private static void answers() {
        EDGE.of("Promise 8", "BAD: not 32 .. 126; NOT: the COMMAND FAILS; FULL: as told.", KeyEdgeTest::keysAreLetters);
        EDGE.of("Promise 8", "0 nothing is pending then, 1 a COMMAND is not whole, 2 one INSERTS.", KeyEdgeTest::threeAnswers);
        EDGE.of("Promise 8", "of several the first that a call names", KeyEdgeTest::badAheadOfFull);
        EDGE.of("Promise 8", "A key that can't stand there makes the COMMAND FAIL (a NUMBER with it).", KeyEdgeTest::keysOutOfPlace);
        EDGE.of("Promise 8", "What FAILS changes nothing.", KeyEdgeTest::whatFails);
    }

    private static void numbers() {
        EDGE.of("Promise 8", "figures; it begins with 1 .. 9;", KeyEdgeTest::firstFigure);
        EDGE.of("Promise 8", "99 at most, else 99", KeyEdgeTest::numbersAboveNinetyNine);
        EDGE.of("Promise 8", "without a NUMBER 1:", KeyEdgeTest::withoutANumber);
        EDGE.of("Promise 8", "then, perhaps, a NUMBER (both multiplied, 99 at most)", KeyEdgeTest::bothMultiplied);
    }

    private static void deeds() {
        EDGE.of("Promise 8", "d: the RANGE goes out of THE LINE and is THE STORE; THE CURSOR is at its beginning (L less 1 at most).",
            KeyEdgeTest::d);
        EDGE.of("Promise 8", "y: it is THE STORE; THE CURSOR at its beginning.", KeyEdgeTest::y);
        EDGE.of("Promise 8", "c: as d; then one INSERTS there.", KeyEdgeTest::c);
        EDGE.of("Promise 8", "An empty RANGE: d, y do nothing but that THE CURSOR goes there; THE STORE stays.",
            KeyEdgeTest::emptyRanges);
        EDGE.of("Promise 8", "x: as d of n LETTERS from THE CURSOR on (as many as there are); FAILS: L is 0.", KeyEdgeTest::x);
        EDGE.of("Promise 8", "r and a LETTER: n LETTERS from THE CURSOR on become that, THE CURSOR is at the last;"
            + " FAILS: there are fewer.", KeyEdgeTest::r);
        EDGE.of("Promise 8", "~: small ones of n LETTERS (as many as there are) become great ones, great ones small;"
            + " THE CURSOR is behind them (L less 1 at most); FAILS: L is 0.", KeyEdgeTest::swap);
        EDGE.of("Promise 8", "p: THE STORE, n times, comes behind the place of THE CURSOR (L 0: at 0), P: at it;"
            + " THE CURSOR is at the last of these;", KeyEdgeTest::p);
        EDGE.of("Promise 8", "FAILS: THE STORE is empty,", KeyEdgeTest::emptyStore);
        EDGE.of("Promise 8", "or more than 60 there would be.", KeyEdgeTest::moreThanSixty);
        EDGE.of("Promise 8", "m and a .. d: THE CURSOR's place is a MARK.", KeyEdgeTest::m);
        EDGE.of("Promise 8", "u: n deeds (as many as are known) are UNDONE; FAILS: none is.", KeyEdgeTest::u);
        EDGE.of("Promise 8", ". : the latest CHANGE is done once more; FAILS: there is none,", KeyEdgeTest::noneToRepeat);
        EDGE.of("Promise 8", "or it had more than 30 KEYS.", KeyEdgeTest::moreThanThirtyKeys);
    }

    private static void inserting() {
        EDGE.of("Promise 8", "i: one INSERTS at THE CURSOR, a: behind it (L 0: at 0), I: at 0, A: at L.", KeyEdgeTest::whereOneInserts);
        EDGE.of("Promise 8", "While one INSERTS a LETTER comes to THE CURSOR, which is 1 on", KeyEdgeTest::lettersInserted);
        EDGE.of("Promise 8", "(FULL: nothing, if L is 60)", KeyEdgeTest::fullAtSixty);
        EDGE.of("Promise 8", "! ends it: THE CURSOR is 1 less (0 at least).", KeyEdgeTest::endOfInserting);
    }

    private static void changes() {
        EDGE.of("Promise 8", "CHANGES are d, x, r, ~, p, P, each that changes THE LINE (r, ~ always)", KeyEdgeTest::whatIsAChange);
        EDGE.of("Promise 8", "and c, i, a, I, A with all that is INSERTED till ! (whether THE LINE is another one or not).",
            KeyEdgeTest::insertingIsAChange);
        EDGE.of("Promise 8", "They can be UNDONE (8 are known, older ones lost;", KeyEdgeTest::eightAreKnown);
        EDGE.of("Promise 8", "what one INSERTS from ! on)", KeyEdgeTest::knownFromTheEndOn);
        EDGE.of("Promise 8", "THE LINE, THE CURSOR are as ahead of the COMMAND", KeyEdgeTest::asAhead);
        EDGE.of("Promise 8", "(of . , too, if what it does once more is a CHANGE; the latest CHANGE stays the latest one by it)",
            KeyEdgeTest::onceMoreUndone);
        EDGE.of("Promise 8", "MARKS, THE STORE stay.", KeyEdgeTest::marksAndStoreStay);
        EDGE.of("Promise 8", "Its KEYS are all from its NUMBER on.", KeyEdgeTest::keysFromTheNumberOn);
    }

    private static void keysAreLetters() {
        for (int letter : new int[] {31, 127, 0, -1, -100, 128, 'x' + 256, 'x' + 65536, MIN, MIN + 'x', MAX}) {
            EDGE.refusedEverywhere("key(" + letter + ")", x -> x.key(letter), ModalKeys.BAD);
        }
        EDGE.answers("ab", "~", 0);
        EDGE.fails("ab", "l", " ");
        EDGE.fails("ab", "l", "}");
        EDGE.makes("ab", "i ~!", " ~ab|1|");
        EDGE.makes("ab", "r~", "~b|0|");
        EDGE.makes("ab", "r ", " b|0|");
    }

    private static void threeAnswers() {
        EDGE.answers("ab", "l", 0);
        EDGE.answers("ab", "2", 1);
        EDGE.answers("ab", "2d", 1);
        EDGE.answers("ab", "2dl", 0);
        EDGE.answers("ab", "i", 2);
        EDGE.answers("ab", "iq", 2);
        EDGE.answers("ab", "iq!", 0);
        EDGE.answers("ab", "cc", 2);
        EDGE.answers("ab", "ciw", 2);
        EDGE.answers("ab", "iq!.", 0);
        EDGE.answers("ab", "xu", 0);
    }

    private static void badAheadOfFull() {
        EDGE.refused("key(31)", State.fullWhileOneInserts(), x -> x.key(31), ModalKeys.BAD);
        EDGE.refused("key(127)", State.fullWhileOneInserts(), x -> x.key(127), ModalKeys.BAD);
        EDGE.refused("key(126)", State.fullWhileOneInserts(), x -> x.key(126), ModalKeys.FULL);
        EDGE.refused("key(32)", State.fullWhileOneInserts(), x -> x.key(32), ModalKeys.FULL);
    }

    private static void keysOutOfPlace() {
        outOfPlace("", MOTIONS + "123456789dycxr~pPiaIAu.m");
        outOfPlace("3", MOTIONS + "0123456789dycxr~pPiaIAu.m");
        outOfPlace("d", MOTIONS + "123456789iad");
        outOfPlace("2y", MOTIONS + "123456789iay");
        outOfPlace("c", MOTIONS + "123456789iac");
        outOfPlace("d2", MOTIONS + "0123456789iad");
        outOfPlace("di", "wb");
        outOfPlace("2c3a", "wb");
        outOfPlace("m", "abcd");
        outOfPlace("2'", "abcd");
        outOfPlace("d'", "abcd");
        EDGE.makes("abcd", "3qx", "bcd|0|a");
        EDGE.makes("abcd", "2d3qx", "bcd|0|a");
        EDGE.makes("abcd", "2dyl", "abcd|1|");
        EDGE.makes("abcd", "2diql", "abcd|1|");
    }

    /** Each key but those that can stand behind what is begun. */
    private static void outOfPlace(String begun, String canStand) {
        State small = State.after("(ab cd)", "lmaxmbrqmc$hmd");
        for (int letter = 32; letter <= 126; letter++) {
            if (canStand.indexOf(letter) < 0) {
                EDGE.fails(small, begun + (char) letter);
            } else {
                ModalKeys x = small.make();
                Hand.strike(x, begun);
                EDGE.holds((char) letter + " can stand behind \"" + begun + "\"", x.key(letter) >= 0);
            }
        }
    }

    private static void whatFails() {
        String[] failing = {
            "99ra", "fZ", "2fZ", "tZ", "dfZ", "ytZ", "2c3fZ", "'d", "d'd", "cib", "q", "3q", "2d3q", "diq", "yaq", "m3", "''",
            "99p", "99P", "!", "dy", "cd", "yc", "d.", "du", "d!", "yx", "cP"};
        State rich = State.rich("$");
        for (String keys : failing) {
            EDGE.fails(rich, keys);
        }
        State nothing = State.after("", "");
        for (String keys : new String[] {"x", "9x", "ra", "~", "9~", "p", "P", "u", "9u", ".", "9.", "diw", "caw", "yib", "dfa", "'a"}) {
            EDGE.fails(nothing, keys);
        }
        EDGE.refused("2rq. where there is one letter", State.after("abc", "2rq$"), x -> x.key('.'), ModalKeys.NOT);
        EDGE.refused("cfbx!. where there is no b", State.after("abcd", "cfbx!"), x -> x.key('.'), ModalKeys.NOT);
        EDGE.refused("dfb. where there is no b", State.after("abcd", "dfb"), x -> x.key('.'), ModalKeys.NOT);
        EDGE.refused("x. where L is 0", State.after("a", "x"), x -> x.key('.'), ModalKeys.NOT);
    }

    private static void firstFigure() {
        EDGE.answers("abc", "0", 0);
        EDGE.answers("abc", "1", 1);
        EDGE.answers("abc", "9", 1);
        EDGE.answers("abc", "10", 1);
        EDGE.stands("abc", "$0", 0);
        EDGE.makes("abc", "$d0", "c|0|ab");
        EDGE.makes("abc", "$2d0", "c|0|ab");
        EDGE.due("10x takes ten", Hand.lineOf(Hand.after(SIXTY, "10x")), SIXTY.substring(10));
        EDGE.due("01x takes one", Hand.lineOf(Hand.after(SIXTY, "01x")), SIXTY.substring(1));
        EDGE.due("d10l takes ten", Hand.lineOf(Hand.after(SIXTY, "d10l")), SIXTY.substring(10));
        EDGE.due("9x takes nine", Hand.lineOf(Hand.after(SIXTY, "9x")), SIXTY.substring(9));
        EDGE.due("20x takes twenty", Hand.lineOf(Hand.after(SIXTY, "20x")), SIXTY.substring(20));
    }

    private static void numbersAboveNinetyNine() {
        EDGE.due("59x", Hand.lineOf(Hand.after(SIXTY, "59x")), "7");
        String[] all = {"60", "61", "98", "99", "100", "101", "110", "255", "256", "990", "999", "1000", "65536", "65537",
            "2147483647", "2147483648", "4294967295", "4294967296", "4294967297", "4294967306", "18446744073709551617",
            "9".repeat(40)};
        for (String number : all) {
            EDGE.due(number + "x", Hand.after(SIXTY, number + "x").count(0), 0);
            EDGE.due("d" + number + "l", Hand.after(SIXTY, "d" + number + "l").count(0), 0);
            EDGE.due(number + "l", Hand.cursor(Hand.after(SIXTY, number + "l")), 59);
        }
        EDGE.due("59rq", Hand.lineOf(Hand.after(SIXTY, "59rq")), "q".repeat(59) + "7");
        EDGE.due("60rq", Hand.lineOf(Hand.after(SIXTY, "60rq")), "q".repeat(60));
        for (String number : new String[] {"61", "99", "100", "256", "65537", "4294967297", "18446744073709551617"}) {
            EDGE.fails(SIXTY, "l", number + "rq");
        }
        EDGE.fails("abc", "l", "100q");
    }

    private static void withoutANumber() {
        EDGE.makes("abc", "x", "bc|0|a");
        EDGE.makes("abc", "1x", "bc|0|a");
        EDGE.makes("abc", "dl", "bc|0|a");
        EDGE.makes("abc", "d1l", "bc|0|a");
        EDGE.makes("abc", "1d1l", "bc|0|a");
        EDGE.makes("abc", "~", "Abc|1|");
        EDGE.makes("abc", "rq", "qbc|0|");
        EDGE.makes("abc", "ylp", "aabc|1|a");
        EDGE.makes("abc", "xxu", "bc|0|b");
    }

    private static void bothMultiplied() {
        String[] pairs = {"1d1", "1d2", "2d1", "2d3", "9d9", "59d1", "1d59", "6d9", "7d8", "60d1", "6d10", "10d6", "9d11", "3d33",
            "10d10", "99d2", "99d99", "50d2", "4294967297d4294967297", "65536d65536", "256d256"};
        int[] taken = {1, 2, 2, 6, 60, 59, 59, 54, 56, 60, 60, 60, 60, 60, 60, 60, 60, 60, 60, 60, 60};
        for (int i = 0; i < pairs.length; i++) {
            EDGE.due(pairs[i] + "l", Hand.after(SIXTY, pairs[i] + "l").count(4), taken[i]);
        }
        String line = "a".repeat(60);
        EDGE.due("2d29fa", Hand.after(line, "2d29fa").count(4), 59);
        EDGE.due("1d59fa", Hand.after(line, "1d59fa").count(4), 60);
        EDGE.fails(line, "", "2d30fa");
        EDGE.fails(line, "", "9d11fa");
        EDGE.fails(line, "", "99d99fa");
        EDGE.fails(line, "", "65536d65536fa");
        EDGE.due("3y2l", Hand.after(SIXTY, "3y2l").count(4), 6);
        EDGE.due("3c2l", Hand.after(SIXTY, "3c2l").count(4), 6);
    }

    private static void d() {
        EDGE.makes("abc", "d2l", "c|0|ab");
        EDGE.makes("abc", "ldl", "ac|1|b");
        EDGE.makes("abc", "$dl", "ab|1|c");
        EDGE.makes("abc", "ld$", "a|0|bc");
        EDGE.makes("a", "dl", "|0|a");
        EDGE.makes("abc", "$db", "c|0|ab");
        EDGE.due("all of sixty", Hand.look(Hand.after(SIXTY, "$dd")), "|0|" + SIXTY);
        EDGE.due("one of sixty", Hand.cursor(Hand.after(SIXTY, "$dl")), 58);
        EDGE.due("the first of sixty", Hand.look(Hand.after(SIXTY, "dl")), SIXTY.substring(1) + "|0|a");
    }

    private static void y() {
        EDGE.makes("abc", "y2l", "abc|0|ab");
        EDGE.makes("abc", "$yl", "abc|2|c");
        EDGE.makes("abc", "$yb", "abc|0|ab");
        EDGE.makes("abc", "ly$", "abc|1|bc");
        EDGE.makes("abc", "$yh", "abc|1|b");
        EDGE.counts("abc", "yy", 6, 0);
        EDGE.counts("abc", "yy", 8, 0);
        EDGE.due("all of sixty", Hand.look(Hand.after(SIXTY, "$yy")), SIXTY + "|0|" + SIXTY);
    }

    /** There: the beginning of the range, which may be L then. */
    private static void c() {
        EDGE.makes("abc", "ldlc$q!", "aq|1|c");
        EDGE.makes("abc", "lc$q!", "aq|1|bc");
        EDGE.makes("abc", "$clq!", "abq|2|c");
        EDGE.makes("abc", "clq!", "qbc|0|a");
        EDGE.makes("abc", "ccq!", "q|0|abc");
        EDGE.makes("", "ccq!", "q|0|");
        EDGE.makes("", "clq!", "q|0|");
        EDGE.makes("abc", "chq!", "qabc|0|");
        EDGE.makes("abc", "xlchq!", "qc|0|b");
        EDGE.makes("()", "cibq!", "(q)|1|");
        EDGE.due("all of sixty", Hand.look(Hand.after(SIXTY, "$ccq")), "q|1|" + SIXTY);
        EDGE.due("the last of sixty", Hand.cursor(Hand.after(SIXTY, "$clq")), 60);
        EDGE.fails("abc", "xl", "cfz");
        EDGE.fails("", "", "ciw");
    }

    private static void emptyRanges() {
        String[] empty = {"dh", "d0", "db", "yh", "y0", "yb", "d9h", "y2b"};
        for (String keys : empty) {
            EDGE.makes("abc", "x" + keys, "bc|0|a");
            EDGE.answers("abc", "x" + keys, 0);
            EDGE.counts("abc", "x" + keys, 6, 1);
            EDGE.counts("abc", "x" + keys, 8, 1);
        }
        String[] ofNothing = {"dh", "dl", "d0", "d$", "dw", "db", "de", "dd", "yh", "yl", "y0", "y$", "yw", "yb", "ye", "yy"};
        for (String keys : ofNothing) {
            EDGE.makes("a", "x" + keys, "|0|a");
            EDGE.answers("a", "x" + keys, 0);
            EDGE.counts("a", "x" + keys, 6, 1);
        }
        EDGE.makes("(a)", "yldib", "()|1|a");
        EDGE.makes("()", "yldib", "()|1|(");
        EDGE.makes("()", "ylyib", "()|1|(");
        EDGE.makes("x()", "yl$dib", "x()|2|x");
        EDGE.counts("()", "dib", 6, 0);
        EDGE.counts("()", "dib", 8, 0);
        EDGE.makes("abc", "yllmad'a", "abc|1|a");
        EDGE.makes("abc", "yllmay'a", "abc|1|a");
        EDGE.makes("abc", "xldh", "c|0|b");
        EDGE.counts("abc", "ch!", 6, 1);
        EDGE.makes("abc", "xch!", "bc|0|a");
    }

    private static void x() {
        EDGE.makes("abc", "3x", "|0|abc");
        EDGE.makes("abc", "2x", "c|0|ab");
        EDGE.makes("abc", "4x", "|0|abc");
        EDGE.makes("abc", "l2x", "a|0|bc");
        EDGE.makes("abc", "l3x", "a|0|bc");
        EDGE.makes("abc", "lx", "ac|1|b");
        EDGE.makes("abc", "$x", "ab|1|c");
        EDGE.makes("abc", "$99x", "ab|1|c");
        EDGE.makes("a", "x", "|0|a");
        EDGE.fails("", "", "x");
        EDGE.fails("", "", "9x");
        EDGE.fails("a", "x", "x");
        EDGE.fails("ab", "yydd", "2x");
    }

    private static void r() {
        EDGE.makes("abc", "3rq", "qqq|2|");
        EDGE.makes("abc", "2rq", "qqc|1|");
        EDGE.fails("abc", "", "4rq");
        EDGE.makes("abc", "l2rq", "aqq|2|");
        EDGE.fails("abc", "l", "3rq");
        EDGE.makes("abc", "$rq", "abq|2|");
        EDGE.fails("abc", "$", "2rq");
        EDGE.makes("a", "rq", "q|0|");
        EDGE.fails("", "", "rq");
        EDGE.fails("", "", "1rq");
        EDGE.makes("abc", "r!", "!bc|0|");
        EDGE.makes("abc", "r3", "3bc|0|");
        EDGE.refused("key(31)", State.after("abc", "3r"), x -> x.key(31), ModalKeys.BAD);
        EDGE.refused("key(127)", State.after("abc", "3r"), x -> x.key(127), ModalKeys.BAD);
    }

    private static void swap() {
        EDGE.makes("abc", "2~", "ABc|2|");
        EDGE.makes("abc", "3~", "ABC|2|");
        EDGE.makes("abc", "4~", "ABC|2|");
        EDGE.makes("abc", "~", "Abc|1|");
        EDGE.makes("abc", "$~", "abC|2|");
        EDGE.makes("abc", "l2~", "aBC|2|");
        EDGE.makes("abc", "l3~", "aBC|2|");
        EDGE.makes("a", "~", "A|0|");
        EDGE.makes("`az{", "4~", "`AZ{|3|");
        EDGE.makes("@AZ[", "4~", "@az[|3|");
        EDGE.makes("byBY", "4~", "BYby|3|");
        EDGE.makes("09 !", "4~", "09 !|3|");
        EDGE.fails("", "", "~");
        EDGE.fails("", "", "9~");
        EDGE.fails("a", "x", "~");
    }

    private static void p() {
        EDGE.makes("ab", "yyp", "aabb|2|ab");
        EDGE.makes("ab", "yyP", "abab|1|ab");
        EDGE.makes("ab", "yy$p", "abab|3|ab");
        EDGE.makes("ab", "yy$P", "aabb|2|ab");
        EDGE.makes("ab", "yy2p", "aababb|4|ab");
        EDGE.makes("ab", "yy2P", "ababab|3|ab");
        EDGE.makes("ab", "ddp", "ab|1|ab");
        EDGE.makes("ab", "ddP", "ab|1|ab");
        EDGE.makes("ab", "dd2p", "abab|3|ab");
        EDGE.makes("a", "xp", "a|0|a");
        EDGE.makes("a", "xP", "a|0|a");
        EDGE.makes("a", "xpp", "aa|1|a");
    }

    private static void emptyStore() {
        for (String keys : new String[] {"p", "P", "2p", "99P"}) {
            EDGE.fails("abc", "l", keys);
            EDGE.fails("", "", keys);
            EDGE.fails("abc", "rqdh", keys);
        }
        EDGE.answers("abc", "ylp", 0);
        EDGE.answers("abc", "ylP", 0);
    }

    private static void moreThanSixty() {
        EDGE.due("58 and 1 twice", Hand.after(SIXTY.substring(2), "yl2p").count(0), 60);
        EDGE.due("58 and 1", Hand.after(SIXTY.substring(2), "ylp").count(0), 59);
        EDGE.fails(SIXTY.substring(2), "yl", "3p");
        EDGE.fails(SIXTY.substring(2), "yl", "3P");
        EDGE.due("59 and 1", Hand.after(SIXTY.substring(1), "ylP").count(0), 60);
        EDGE.fails(SIXTY.substring(1), "yl", "2P");
        EDGE.fails(SIXTY.substring(1), "y2l", "p");
        EDGE.fails(SIXTY, "yl", "p");
        EDGE.fails(SIXTY, "yl$", "P");
        EDGE.fails(SIXTY, "yy", "p");
        EDGE.due("none and 60", Hand.lineOf(Hand.after(SIXTY, "ddp")), SIXTY);
        EDGE.fails(SIXTY, "dd", "2p");
        EDGE.fails(SIXTY, "dd", "99P");
        EDGE.due("30 twice", Hand.after(SIXTY, "d30ly$0P").count(0), 60);
        EDGE.due("20 to 40", Hand.after(SIXTY, "20xp").count(0), 60);
        EDGE.fails(SIXTY, "20xiq!", "p");
        EDGE.fails(SIXTY, "20x", "2p");
        EDGE.makes("a", "x60p", "a".repeat(60) + "|59|a");
        EDGE.makes("a", "x59p", "a".repeat(59) + "|58|a");
        EDGE.fails("a", "x", "61p");
        EDGE.fails("a", "x", "99p");
    }

    private static void m() {
        EDGE.fails("abc", "l", "m`");
        EDGE.fails("abc", "l", "me");
        EDGE.fails("abc", "l", "mA");
        EDGE.fails("abc", "lma", "m1");
        for (int k = 0; k < 4; k++) {
            EDGE.due("m" + (char) ('a' + k), Hand.after("abc", "lm" + (char) ('a' + k)).mark(k), 1);
        }
        EDGE.due("at the last place", Hand.after("abc", "$mb").mark(1), 2);
        EDGE.due("at 0 if L is 0", Hand.after("", "mb").mark(1), 0);
        EDGE.counts("abc", "ma", 6, 0);
        EDGE.counts("abc", "ma", 8, 0);
    }

    private static void u() {
        EDGE.makes("abcd", "xxxu", "cd|0|c");
        EDGE.makes("abcd", "xxx2u", "bcd|0|c");
        EDGE.makes("abcd", "xxx3u", "abcd|0|c");
        EDGE.makes("abcd", "xxx4u", "abcd|0|c");
        EDGE.makes("abcd", "xxx99u", "abcd|0|c");
        EDGE.answers("abcd", "xxx4u", 0);
        EDGE.counts("abcd", "xxx4u", 6, 0);
        EDGE.counts("abcd", "xxx2u", 6, 1);
        EDGE.fails("abcd", "", "u");
        EDGE.fails("abcd", "", "9u");
        EDGE.fails("abcd", "xu", "u");
        EDGE.fails("abcd", "xxx3u", "u");
        EDGE.fails("abcd", "xxx99u", "2u");
        EDGE.fails("abcd", "yl$", "u");
    }

    private static void noneToRepeat() {
        EDGE.fails("abcd", "", ".");
        EDGE.fails("abcd", "", "3.");
        EDGE.fails("abcd", "yllma", ".");
        EDGE.fails("", "", ".");
        EDGE.makes("abcd", "x.", "cd|0|b");
        EDGE.makes("abcd", "xu.", "bcd|0|a");
        EDGE.makes("abcd", "x..", "d|0|c");
        EDGE.answers("abcd", "x.", 0);
        ModalKeys x = Hand.after("abcd", "x");
        Hand.tell(x, "abcd");
        EDGE.due("none behind line()", x.key('.'), ModalKeys.NOT);
    }

    private static void moreThanThirtyKeys() {
        EDGE.due("29 keys", Hand.after("", "i" + "q".repeat(27) + "!.").count(0), 54);
        EDGE.due("30 keys", Hand.after("", "i" + "q".repeat(28) + "!.").count(0), 56);
        EDGE.fails("", "i" + "q".repeat(29) + "!", ".");
        EDGE.fails("", "i" + "q".repeat(30) + "!", ".");
        EDGE.fails("", "i" + "q".repeat(29) + "!", "2.");
        EDGE.answers("", "3i" + "q".repeat(27) + "!.", 0);
        EDGE.fails("", "3i" + "q".repeat(28) + "!", ".");
        EDGE.answers("abc", "ylcl" + "q".repeat(27) + "!0.", 0);
        EDGE.fails("abc", "ylcl" + "q".repeat(28) + "!0", ".");
        EDGE.fails("abc", "1".repeat(30) + "xu", ".");
        EDGE.due("29 figures and x, once more", Hand.strike(Hand.on("abc"), "1".repeat(29) + "xu."), 0);
        EDGE.fails(SIXTY, "i" + "q".repeat(29) + "!", ".");
        EDGE.answers(SIXTY, "i" + "q".repeat(28) + "!.", 0);
    }

    private static void whereOneInserts() {
        EDGE.makes("ab", "liq!", "aqb|1|");
        EDGE.makes("ab", "iq!", "qab|0|");
        EDGE.makes("ab", "aq!", "aqb|1|");
        EDGE.makes("ab", "laq!", "abq|2|");
        EDGE.makes("ab", "lIq!", "qab|0|");
        EDGE.makes("ab", "Aq!", "abq|2|");
        for (String key : new String[] {"i", "a", "I", "A"}) {
            EDGE.makes("", key + "q!", "q|0|");
            EDGE.stands("", key, 0);
            EDGE.answers("", key, 2);
            EDGE.answers("ab", "9" + key, 2);
        }
        EDGE.makes("a", "aq!", "aq|1|");
        EDGE.due("a at the last of sixty", Hand.cursor(Hand.after(SIXTY, "$a")), 60);
        EDGE.due("A of sixty", Hand.cursor(Hand.after(SIXTY, "A")), 60);
        EDGE.due("i at the last of sixty", Hand.cursor(Hand.after(SIXTY, "$i")), 59);
    }

    private static void lettersInserted() {
        EDGE.makes("ab", "lixy", "axyb|3|");
        EDGE.makes("ab", "Axy", "abxy|4|");
        EDGE.makes("ab", "Ixy", "xyab|2|");
        EDGE.makes("", "i ", " |1|");
        EDGE.makes("", "i~", "~|1|");
        EDGE.makes("", "i0d.u", "0d.u|4|");
        EDGE.answers("", "ix", 2);
        EDGE.refused("key(31)", State.after("ab", "lix"), x -> x.key(31), ModalKeys.BAD);
        EDGE.refused("key(127)", State.after("ab", "lix"), x -> x.key(127), ModalKeys.BAD);
    }

    private static void fullAtSixty() {
        for (String begin : new String[] {"i", "30li", "A", "I", "$a"}) {
            ModalKeys x = Hand.after(SIXTY.substring(2), begin);
            EDGE.due(begin + ": the 59th", x.key('y'), 2);
            EDGE.due(begin + ": the 60th", x.key('z'), 2);
            String look = Hand.look(x);
            String counts = Hand.counts(x);
            EDGE.due(begin + ": the 61st", x.key('q'), ModalKeys.FULL);
            EDGE.due(begin + ": the 62nd", x.key('d'), ModalKeys.FULL);
            EDGE.due(begin + ": nothing", Hand.look(x), look);
            EDGE.due(begin + ": nothing, by what is counted", Hand.counts(x), counts);
            EDGE.due(begin + ": ! ends it", x.key('!'), 0);
            EDGE.due(begin + ": all of them are its KEYS", x.count(8), 6);
        }
        State full = State.fullWhileOneInserts();
        EDGE.refused("key(q)", full, x -> x.key('q'), ModalKeys.FULL);
        EDGE.refused("key(.)", full, x -> x.key('.'), ModalKeys.FULL);
        EDGE.refused("key(u)", full, x -> x.key('u'), ModalKeys.FULL);
        EDGE.due("room again", Hand.strike(full.make(), "!xiq"), 2);
    }

    private static void endOfInserting() {
        EDGE.stands("abc", "i!", 0);
        EDGE.stands("abc", "li!", 0);
        EDGE.stands("abc", "lli!", 1);
        EDGE.stands("abc", "iq!", 0);
        EDGE.stands("abc", "iqr!", 1);
        EDGE.stands("abc", "A!", 2);
        EDGE.stands("abc", "Aq!", 3);
        EDGE.stands("", "i!", 0);
        EDGE.stands("", "A!", 0);
        EDGE.stands("abc", "lc$!", 0);
        EDGE.due("at 60", Hand.cursor(Hand.after(SIXTY, "A!")), 59);
        EDGE.answers("abc", "i!", 0);
        EDGE.fails("abc", "li!", "!");
        EDGE.fails("abc", "l", "!");
        EDGE.makes("abc", "iq!x", "abc|0|q");
    }

    private static void whatIsAChange() {
        String[] changing = {"dl", "dd", "$dh", "x", "9x", "rq", "ra", "3rq", "~", "9~", "ylp", "ylP", "yl$p"};
        for (String keys : changing) {
            EDGE.counts("a1c", keys, 6, 1);
            EDGE.holds(keys + " is the latest", Hand.after("a1c", keys).count(8) > 0);
        }
        String[] others = {"", "l", "2l", "$", "dh", "d0", "db", "yl", "yy", "ma", "ma'a", "fq", "dfq", "4rq", "p", "u", ".", "q"};
        for (String keys : others) {
            EDGE.counts("a1c", keys, 6, 0);
            EDGE.counts("a1c", keys, 8, 0);
        }
        EDGE.counts("1", "~", 6, 1);
        EDGE.counts("1", "r1", 6, 1);
        EDGE.counts("", "dd", 6, 0);
        EDGE.counts("", "d$", 6, 0);
        EDGE.counts("()", "dib", 6, 0);
        EDGE.counts("(a)", "ldib", 6, 1);
    }

    private static void insertingIsAChange() {
        for (String keys : new String[] {"i!", "a!", "I!", "A!", "iq!", "ch!", "cl!", "cc!", "$c$!", "caw!"}) {
            EDGE.counts("abc", keys, 6, 1);
            EDGE.counts("abc", keys, 8, keys.startsWith("$") ? keys.length() - 1 : keys.length());
        }
        EDGE.counts("", "i!", 6, 1);
        EDGE.counts("", "cc!", 6, 1);
        EDGE.counts(SIXTY, "iq!", 6, 1);
        EDGE.counts("abc", "cfz!", 6, 0);
        EDGE.makes("abc", "xlli!u", "bc|1|a");
        EDGE.makes("abc", "xi!uu", "abc|0|a");
    }

    private static void eightAreKnown() {
        String line = "abcdefghijklmnop";
        for (int made = 1; made <= 10; made++) {
            int known = Math.min(made, 8);
            for (int back = 1; back <= 10; back++) {
                int undone = Math.min(back, known);
                String want = line.substring(made - undone);
                EDGE.due(made + " made, " + back + "u", Hand.lineOf(Hand.after(line, "x".repeat(made) + back + "u")), want);
                ModalKeys x = Hand.after(line, "x".repeat(made));
                int last = Hand.strike(x, "u".repeat(back));
                EDGE.due(made + " made, u " + back + " times", Hand.lineOf(x), want);
                EDGE.due(made + " made, the last u", last, back <= known ? 0 : ModalKeys.NOT);
            }
        }
        EDGE.fails(line, "x".repeat(8) + "8u", "u");
        EDGE.fails(line, "x".repeat(9) + "8u", "u");
        EDGE.fails(line, "x".repeat(7) + "7u", "u");
        EDGE.counts(line, "x".repeat(9) + "3uxxxx", 6, 8);
        EDGE.makes(line, "x".repeat(9) + "3uxxxx8u", "cdefghijklmnop|0|j");
    }

    private static void knownFromTheEndOn() {
        EDGE.counts("abc", "xi", 6, 1);
        EDGE.counts("abc", "xiq", 6, 1);
        EDGE.counts("abc", "xiq!", 6, 2);
        EDGE.counts("abc", "xcc", 6, 1);
        EDGE.counts("abc", "xccq!", 6, 2);
        EDGE.counts("abc", "xcc", 8, 1);
        EDGE.makes("abc", "xccq!u", "bc|0|bc");
        EDGE.makes("abc", "xiqu!u", "bc|0|a");
        EDGE.counts(SIXTY, "x".repeat(8) + "i", 6, 8);
        EDGE.due("the oldest is lost by !", Hand.lineOf(Hand.after(SIXTY, "x".repeat(8) + "iq!9u")), SIXTY.substring(1));
    }

    private static void asAhead() {
        String[] keys = {"d2l", "$dh", "x", "l9x", "2rq", "$~", "ylp", "yl$P", "lcwq!", "laqr!", "$Iq!", "Aq!", "li!"};
        int[] cursor = {0, 3, 0, 1, 0, 3, 0, 3, 1, 1, 3, 0, 1};
        for (int i = 0; i < keys.length; i++) {
            ModalKeys x = Hand.after("abcd", keys[i] + "u");
            EDGE.due(keys[i] + "u: THE LINE", Hand.lineOf(x), "abcd");
            EDGE.due(keys[i] + "u: THE CURSOR", x.count(1), cursor[i]);
        }
        EDGE.due("of sixty", Hand.lineOf(Hand.after(SIXTY, "$ddu")), SIXTY);
        EDGE.due("at the last of sixty", Hand.cursor(Hand.after(SIXTY, "$ddu")), 59);
        EDGE.due("of none", Hand.look(Hand.after("", "iq!u")), "|0|");
        EDGE.due("the pieces of a CHANGE go at once", Hand.look(Hand.after("abcd", "l3x3pu")), "a|0|bcd");
    }

    private static void onceMoreUndone() {
        EDGE.makes("abcd", "xl.u", "bcd|1|c");
        EDGE.makes("abcd", "xl.uu", "abcd|0|c");
        EDGE.counts("abcd", "x.", 6, 2);
        EDGE.counts("abcd", "x.", 8, 1);
        EDGE.counts("abcd", "2x3.", 8, 2);
        EDGE.counts("abcd", "ldh.", 6, 1);
        EDGE.counts("abcd", "ldh.", 8, 2);
        EDGE.makes("abcd", "ldh.u", "abcd|1|a");
        EDGE.counts("abcd", "iq!.", 6, 2);
        EDGE.makes("abcd", "liq!$.u", "aqbcd|4|");
        EDGE.counts(SIXTY, "x.......", 6, 8);
        EDGE.counts(SIXTY, "x........", 6, 8);
        EDGE.due("the first is lost by the ninth", Hand.lineOf(Hand.after(SIXTY, "x........9u")), SIXTY.substring(1));
        EDGE.counts("ab", "2rq.", 6, 1);
    }

    private static void marksAndStoreStay() {
        EDGE.makes("abcd", "lxu", "abcd|1|b");
        EDGE.makes("abcd", "lxxuu", "abcd|1|c");
        EDGE.due("a MARK behind the CHANGE", Hand.after("abcd", "x$mau").mark(0), 2);
        EDGE.due("a MARK ahead of it", Hand.after("abcd", "$maxu").mark(0), 3);
        EDGE.counts("abcd", "xmambu", 5, 3);
        EDGE.counts("abcd", "3xu", 4, 3);
        EDGE.counts("abcd", "3xu", 8, 2);
    }

    private static void keysFromTheNumberOn() {
        EDGE.counts(SIXTY, "x", 8, 1);
        EDGE.counts(SIXTY, "2x", 8, 2);
        EDGE.counts(SIXTY, "12x", 8, 3);
        EDGE.counts(SIXTY, "l2x", 8, 2);
        EDGE.counts(SIXTY, "2lx", 8, 1);
        EDGE.counts(SIXTY, "2qx", 8, 1);
        EDGE.counts(SIXTY, "2d3l", 8, 4);
        EDGE.counts("a".repeat(60), "2d12fa", 8, 6);
        EDGE.counts(SIXTY, "d1fa", 8, 4);
        EDGE.counts(SIXTY, "3rq", 8, 3);
        EDGE.counts(SIXTY, "2diw", 8, 4);
        EDGE.counts(SIXTY, "mald'a", 8, 3);
        EDGE.counts("abc", "2c3lqr!", 8, 7);
        EDGE.counts("abc", "xp", 8, 1);
        EDGE.makes("abcdef", "2x.", "ef|0|cd");
        EDGE.makes("abcdef", "2x3.", "ef|0|cd");
    }
}
