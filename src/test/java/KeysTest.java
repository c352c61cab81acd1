/** Promises 8 and 9: key, price. */
public final class KeysTest {
    private static final Check CHECK = new Check("KeysTest");
    private static final String SIXTY = "abcdefghijklmnopqrstuvwxyzabcdefghijklmnopqrstuvwxyz01234567";

    public static void main(String[] args) {
        answersOfKeys();
        keysThatCannotStandThere();
        motionsAsDeeds();
        numbers();
        ranges();
        words();
        brackets();
        cutsYanksChanges();
        lettersOverwritten();
        casesSwapped();
        putsIn();
        inserts();
        lettersThatAreFull();
        undone();
        onceMore();
        marks();
        whatFailsChangesNothing();
        promise9();
        CHECK.end();
    }

    /** What keys make of a line, from a new object: line, cursor, store. */
    private static void makes(String line, String keys, String want) {
        CHECK.due("8 \"" + line + "\" by " + keys, Hand.look(Hand.after(line, keys)), want);
    }

    private static void answers(String line, String keys, int want) {
        CHECK.due("8 \"" + line + "\": the last of " + keys, Hand.strike(Hand.on(line), keys), want);
    }

    private static void leadsTo(String line, String keys, int want) {
        CHECK.due("8 \"" + line + "\": the cursor after " + keys, Hand.cursor(Hand.after(line, keys)), want);
    }

    private static void answersOfKeys() {
        ModalKeys x = Hand.on("ab");
        CHECK.due("8 key(31)", x.key(31), ModalKeys.BAD);
        CHECK.due("8 key(127)", x.key(127), ModalKeys.BAD);
        CHECK.due("8 key(-1)", x.key(-1), ModalKeys.BAD);
        CHECK.due("8 key(2)", x.key('2'), 1);
        CHECK.due("8 key(d)", x.key('d'), 1);
        CHECK.due("8 key(31) within", x.key(31), ModalKeys.BAD);
        CHECK.due("8 what is BAD ends nothing", x.count(3), 1);
        CHECK.due("8 key(l)", x.key('l'), 0);
        CHECK.due("8 both gone", x.count(0), 0);
        CHECK.due("8 key(i)", x.key('i'), 2);
        CHECK.due("8 key(q)", x.key('q'), 2);
        CHECK.due("8 key(31) while one inserts", x.key(31), ModalKeys.BAD);
        CHECK.due("8 key(!)", x.key('!'), 0);
        CHECK.due("8 key(!) again", x.key('!'), ModalKeys.NOT);
    }

    private static void keysThatCannotStandThere() {
        for (int k = 32; k <= 126; k++) {
            boolean verb = "123456789dycrmftxpPiaIAu.~hl0$wbe'".indexOf(k) >= 0;
            int answer = Hand.on("").key(k);
            if (!verb) {
                CHECK.due("8 key " + (char) k + " first", answer, ModalKeys.NOT);
            }
            boolean reach = "123456789dhl0$wbeft'ia".indexOf(k) >= 0;
            CHECK.holds("8 key " + (char) k + " behind d", reach == (Hand.strike(Hand.on("ab"), "d" + (char) k) >= 0));
            boolean object = k == 'w' || k == 'b';
            CHECK.holds("8 key " + (char) k + " behind di", object == (Hand.strike(Hand.on("()"), "di" + (char) k) >= 0));
            boolean mark = k >= 'a' && k <= 'd';
            CHECK.holds("8 key " + (char) k + " behind m", mark == (Hand.strike(Hand.on("ab"), "m" + (char) k) >= 0));
        }
        answers("ab", "yd", ModalKeys.NOT);
        answers("ab", "cy", ModalKeys.NOT);
        answers("ab", "d.", ModalKeys.NOT);
        answers("ab", "du", ModalKeys.NOT);
        answers("ab", "dx", ModalKeys.NOT);
        answers("ab", "d!", ModalKeys.NOT);
        answers("ab", "3q", ModalKeys.NOT);
        answers("ab", "yldibp", 0);
        makes("abcd", "3qx", "bcd|0|a");
        makes("abcd", "2d3qx", "bcd|0|a");
    }

    private static void motionsAsDeeds() {
        String line = "one two  (three; four) five";
        leadsTo(line, "h", 0);
        leadsTo(line, "l", 1);
        leadsTo(line, "99l", 26);
        leadsTo(line, "$", 26);
        leadsTo(line, "$0", 0);
        leadsTo(line, "3w", 10);
        leadsTo(line, "99w", 26);
        leadsTo(line, "$2b", 21);
        leadsTo(line, "2e", 6);
        leadsTo(line, "99e", 26);
        leadsTo(line, "fe", 2);
        leadsTo(line, "2fe", 13);
        leadsTo(line, "4fe", 26);
        leadsTo(line, "te", 1);
        leadsTo(line, "to", 5);
        leadsTo(line, "2te", 12);
        leadsTo("aab", "ta", 0);
        leadsTo("aab", "2ta", 0);
        leadsTo("aab", "fa", 1);
        answers(line, "5fe", ModalKeys.NOT);
        answers(line, "fo", 0);
        answers(line, "f", 1);
        answers(line, "fz", ModalKeys.NOT);
        answers(line, "tz", ModalKeys.NOT);
        answers("a", "fa", ModalKeys.NOT);
        leadsTo("a 3!", "f3", 2);
        leadsTo("a 3!", "f!", 3);
        leadsTo("ab   ", "e", 1);
        leadsTo("ab   ", "ee", 4);
        leadsTo("", "$", 0);
    }

    private static void numbers() {
        makes(SIXTY, "10x", SIXTY.substring(10) + "|0|" + SIXTY.substring(0, 10));
        makes(SIXTY, "1d10l", SIXTY.substring(10) + "|0|" + SIXTY.substring(0, 10));
        makes(SIXTY, "2d3l", SIXTY.substring(6) + "|0|" + SIXTY.substring(0, 6));
        makes(SIXTY, "20d30l", "|0|" + SIXTY);
        makes("abcdef", "3ld0", "def|0|abc");
        makes("abcdef", "3l2d0", "def|0|abc");
        leadsTo(SIXTY, "100l", 59);
        leadsTo(SIXTY, "50l", 50);
        answers("", "1234567890123456789012345678901234567890", 1);
        makes("ab", "1234567890123456789012345678901234567890x", "|0|ab");
        makes("ab", "9999999999d9999999999l", "|0|ab");
    }

    private static void ranges() {
        makes("one two", "dw", "two|0|one ");
        makes("one two", "de", " two|0|one");
        makes("one two", "d$", "|0|one two");
        makes("one two", "wd$", "one |3|two");
        makes("one two", "wdb", "two|0|one ");
        makes("one two", "$dh", "one to|5|w");
        makes("one two", "$dl", "one tw|5|o");
        makes("one two", "$d0", "o|0|one tw");
        makes("one two", "dft", "wo|0|one t");
        makes("one two", "dtt", "two|0|one ");
        makes("one two", "dtn", "ne two|0|o");
        makes("one two", "d2fo", "one two|0|");
        makes("one two", "lmawd'a", "otwo|1|ne ");
        makes("one two", "lma0d'a", "ne two|0|o");
        makes("one two", "$de", "one tw|5|o");
        makes("one two", "dh", "one two|0|");
        makes("one two", "dd", "|0|one two");
        makes("one two", "wd7d", "|0|one two");
        makes("one two", "wldd", "|0|one two");
        makes("one two", "wyy", "one two|0|one two");
        makes("one two", "$yb", "one two|4|tw");
        makes("one two", "wye", "one two|4|two");
        makes("", "d$", "|0|");
        makes("", "dd", "|0|");
        makes("", "de", "|0|");
        answers("", "d$", 0);
    }

    private static void words() {
        makes("one two  three", "wdiw", "one   three|4|two");
        makes("one two  three", "wdaw", "one three|4|two  ");
        makes("one two  three", "w2ldaw", "one three|4|two  ");
        makes("one two  three", "7ldiw", "one twothree|7|  ");
        makes("one two  three", "7ldaw", "one twothree|7|  ");
        makes("one two  three", "$daw", "one two  |8|three");
        makes("a;;b", "ldiw", "ab|1|;;");
        makes("a;; b", "ldaw", "ab|1|;; ");
        makes("a;; b", "y9aw", "a;; b|0|a");
        answers("", "diw", ModalKeys.NOT);
        answers("", "yaw", ModalKeys.NOT);
        answers("", "caw", ModalKeys.NOT);
    }

    private static void brackets() {
        makes("a (b c) d", "4ldib", "a () d|3|b c");
        makes("a (b c) d", "4ldab", "a  d|2|(b c)");
        makes("a (b c) d", "2ldib", "a () d|3|b c");
        makes("a (b c) d", "6ldib", "a () d|3|b c");
        makes("a (b c) d", "6ldab", "a  d|2|(b c)");
        makes("((a)b)", "$dib", "()|1|(a)b");
        makes("((a)b)", "dib", "()|1|(a)b");
        makes("((a)b)", "ldib", "(()b)|2|a");
        makes("((a)b)", "3ldib", "(()b)|2|a");
        makes("((a)b)", "4ldib", "()|1|(a)b");
        makes("((a)b)", "4lyab", "((a)b)|0|((a)b)");
        makes("()", "dib", "()|1|");
        makes("()", "xP$dib", "()|1|(");
        makes("x()", "$yib", "x()|2|");
        answers("()", "dib", 0);
        CHECK.due("8 dib of () is no change", Hand.after("()", "dib").count(6), 0);
        answers("a (b c) d", "dib", ModalKeys.NOT);
        answers("a (b c) d", "$dab", ModalKeys.NOT);
        answers("a (b c", "$dib", ModalKeys.NOT);
        answers("(a (b c)", "ldib", ModalKeys.NOT);
        answers("(a (b c)", "$dib", 0);
        answers("a b) c", "dib", ModalKeys.NOT);
        answers("(a)) b", "$dib", ModalKeys.NOT);
        answers("(a))", "$dib", ModalKeys.NOT);
        answers("", "dab", ModalKeys.NOT);
        makes("()", "cibab!", "(ab)|2|");
    }

    private static void cutsYanksChanges() {
        makes("abcd", "x", "bcd|0|a");
        makes("abcd", "$x", "abc|2|d");
        makes("abcd", "2l9x", "ab|1|cd");
        answers("", "x", ModalKeys.NOT);
        makes("one two", "cwxy!", "xytwo|1|one ");
        makes("one two", "wcwxy!", "one xy|5|two");
        makes("one two", "wc$!", "one |3|two");
        makes("one two", "ccq!", "q|0|one two");
        makes("one two", "chq!", "qone two|0|");
        makes("one two", "wmac'aq!", "one qtwo|4|");
        makes("one two", "$xchq!", "one qw|4|t");
        CHECK.due("8 c begins to insert at L", Hand.cursor(Hand.after("ab", "lc$")), 1);
        answers("", "c$", 2);
        answers("", "ch", 2);
        answers("ab", "cfz", ModalKeys.NOT);
        CHECK.due("8 nobody inserts when c fails", Hand.after("ab", "cfz").count(2), 0);
        makes("abcd", "xldh", "cd|0|b");
        makes("abcd", "xdh", "bcd|0|a");
        makes("abcd", "xyh", "bcd|0|a");
    }

    private static void lettersOverwritten() {
        makes("abcd", "rx", "xbcd|0|");
        makes("abcd", "l3r!", "a!!!|3|");
        makes("abcd", "4r ", "    |3|");
        answers("abcd", "5rx", ModalKeys.NOT);
        answers("abcd", "l4rx", ModalKeys.NOT);
        makes("abcd", "l4rxx", "acd|1|b");
        answers("", "rx", ModalKeys.NOT);
        CHECK.due("8 r is a change always", Hand.after("a", "ra").count(6), 1);
    }

    private static void casesSwapped() {
        makes("aB1z", "~", "AB1z|1|");
        makes("aB1z", "9~", "Ab1Z|3|");
        makes("@[`{", "4~", "@[`{|3|");
        makes("azAZ", "4~", "AZaz|3|");
        makes("abcd", "2~", "ABcd|2|");
        answers("", "~", ModalKeys.NOT);
        CHECK.due("8 ~ is a change always", Hand.after("1", "~").count(6), 1);
    }

    private static void putsIn() {
        makes("abcd", "y2lp", "aabbcd|2|ab");
        makes("abcd", "y2lP", "ababcd|1|ab");
        makes("abcd", "y2l$3p", "abcdababab|9|ab");
        makes("abcd", "y2l$2P", "abcababd|6|ab");
        makes("ab", "ddp", "ab|1|ab");
        makes("ab", "ddP", "ab|1|ab");
        makes("ab", "dd3P", "ababab|5|ab");
        answers("ab", "p", ModalKeys.NOT);
        answers("ab", "P", ModalKeys.NOT);
        answers("ab", "yy29p", 0);
        answers("ab", "yy30p", ModalKeys.NOT);
        answers("ab", "yy99p", ModalKeys.NOT);
        answers("ab", "yy30P", ModalKeys.NOT);
        answers(SIXTY, "ylp", ModalKeys.NOT);
        CHECK.due("8 sixty by p", Hand.after("ab", "yy29p").count(0), 60);
    }

    private static void inserts() {
        makes("abc", "lixy!", "axybc|2|");
        makes("abc", "laxy!", "abxyc|3|");
        makes("abc", "lIxy!", "xyabc|1|");
        makes("abc", "Axy!", "abcxy|4|");
        makes("", "ax!", "x|0|");
        makes("", "Ix!", "x|0|");
        makes("", "Ax!", "x|0|");
        makes("abc", "i!", "abc|0|");
        makes("abc", "li!", "abc|0|");
        makes("abc", "3ix!", "xabc|0|");
        makes("abc", "id0$ u.!", "d0$ u.abc|5|");
        ModalKeys x = Hand.after(SIXTY.substring(1), "A");
        CHECK.due("8 the sixtieth", x.key('q'), 2);
        CHECK.due("8 the 61st", x.key('q'), ModalKeys.FULL);
        CHECK.due("8 one still inserts", x.count(2), 1);
        CHECK.due("8 !", x.key('!'), 0);
        CHECK.due("8 what was FULL is a key of it", x.count(8), 4);
        CHECK.due("8 sixty", x.count(0), 60);
        CHECK.due("8 i! is a change", Hand.after("abc", "i!").count(6), 1);
        CHECK.due("8 ch! is a change", Hand.after("abc", "ch!").count(8), 3);
    }

    /** They are keys of the change as all others are, also for . */
    private static void lettersThatAreFull() {
        CHECK.due("8 only FULL ones", Hand.after(SIXTY, "iqqq!").count(8), 5);
        CHECK.due("8 FULL ones behind a number", Hand.after(SIXTY, "12iq!").count(8), 5);
        CHECK.due("8 FULL ones of c", Hand.after(SIXTY, "clzqq!").count(8), 6);
        CHECK.due("8 FULL ones, till ! those of the change ahead", Hand.after(SIXTY, "xpiqqq").count(8), 1);
        CHECK.due("8 thirty with FULL ones", Hand.after(SIXTY, "i" + "q".repeat(28) + "!").count(8), 30);
        CHECK.due("8 31 with FULL ones", Hand.after(SIXTY, "i" + "q".repeat(29) + "!").count(8), 31);
        CHECK.due("8 more than 31 with FULL ones", Hand.after(SIXTY, "i" + "q".repeat(50) + "!").count(8), 31);
        CHECK.due("8 a key that is BAD is none of it", badWithin(), 4);
        makes(SIXTY, "iqrs!u", SIXTY + "|0|");
        makes("abc", "yl57piqrs!uu.", "qrsabc|2|a");
        makes("abc", "yl57pclxyz!uu.", "xyzbc|2|a");
        answers(SIXTY, "i" + "q".repeat(28) + "!.", 0);
        answers(SIXTY, "i" + "q".repeat(29) + "!.", ModalKeys.NOT);
        ModalKeys x = Hand.after(SIXTY, "iqrs!.");
        CHECK.due("8 . of FULL ones leaves their keys", x.count(8), 5);
        CHECK.due("8 . of FULL ones can be undone", x.count(6), 2);
    }

    private static int badWithin() {
        ModalKeys x = Hand.after(SIXTY, "iqr");
        x.key(31);
        x.key(127);
        x.key('!');
        return x.count(8);
    }

    private static void undone() {
        makes("abcd", "lxu", "abcd|1|b");
        makes("abcd", "lxxuu", "abcd|1|c");
        makes("abcd", "lxx2u", "abcd|1|c");
        makes("abcd", "lxx9u", "abcd|1|c");
        makes("abcd", "$rxu", "abcd|3|");
        makes("abcd", "2~u", "abcd|0|");
        makes("abcd", "ylpu", "abcd|0|a");
        makes("abcd", "lAxy!u", "abcd|1|");
        makes("abcd", "l2cwxy!u", "abcd|1|bcd");
        makes("abcd", "$i!u", "abcd|3|");
        makes("abcdefghijklm", "xxxxxxxxxx9u", "cdefghijklm|0|j");
        makes("abcdefghijklm", "xxxxxxxxxxuuuuuuuuu", "cdefghijklm|0|j");
        answers("abcd", "xu", 0);
        answers("abcd", "x9u", 0);
        answers("abcd", "u", ModalKeys.NOT);
        answers("abcd", "xuu", ModalKeys.NOT);
        answers("abcd", "dhu", ModalKeys.NOT);
        answers("abcd", "ylu", ModalKeys.NOT);
        answers("abcd", "wmau", ModalKeys.NOT);
        CHECK.due("8 u leaves the latest change", Hand.after("abcd", "2xu").count(8), 2);
        makes("abcd", "2xu$.", "abc|2|d");
        CHECK.due("8 a ring of eight", Hand.after("abcdefghijklm", "xxxxxxxxxxuuxxxx").count(6), 8);
        makes("abcdefghijklm", "xxxxxxxxxxuuuxu", "hijklm|0|h");
    }

    private static void onceMore() {
        makes("abcdef", "2x.", "ef|0|cd");
        makes("abcdef", "2x3.", "ef|0|cd");
        makes("one two three", "dw.", "three|0|two ");
        makes("abab", "dfb.", "|0|ab");
        makes("abcd", "rxl.", "xxcd|1|");
        makes("abcd", "2~.", "ABCD|3|");
        makes("ab", "ylp.", "aaab|2|a");
        makes("abc", "aX!.", "aXXbc|2|");
        makes("abc", "cwxy!0.", "xy|1|xy");
        makes("abcd", "xyl.", "cd|0|b");
        makes("abcd", "x2.u", "bcd|0|b");
        makes("abcd", "x..3u", "abcd|0|c");
        answers("abcd", ".", ModalKeys.NOT);
        answers("abcd", "3.", ModalKeys.NOT);
        answers("abcd", "yl.", ModalKeys.NOT);
        answers("ab", "2rx.", ModalKeys.NOT);
        answers("ab", "ddu.", 0);
        answers("ab", "xx.", ModalKeys.NOT);
        CHECK.due("8 . leaves the latest change", Hand.after("abcd", "2x.").count(8), 2);
        CHECK.due("8 . can be undone", Hand.after("abcd", "x.").count(6), 2);
        CHECK.due("8 . that changes nothing can't", Hand.after("abcd", "ldh.").count(6), 1);
        answers("abcd", "ldh.", 0);
        makes("abcdef", "cfbx!.", "xcdef|0|ab");
        answers("abcdef", "cfbx!.", ModalKeys.NOT);
        CHECK.due("8 . that fails begins nothing", Hand.after("abcdef", "cfbx!.").count(2), 0);
        String thirty = "i" + SIXTY.substring(0, 28) + "!";
        answers("", thirty + ".", 0);
        answers("", "i" + SIXTY.substring(0, 29) + "!.", ModalKeys.NOT);
        answers("", thirty + "i" + SIXTY.substring(0, 29) + "!.", ModalKeys.NOT);
        ModalKeys x = Hand.after("", thirty + "..");
        CHECK.due("8 . fills the line", x.count(0), 60);
        CHECK.due("8 . that was FULL in it is done", x.count(2), 0);
        CHECK.due("8 . can be undone, though it was FULL", x.count(6), 3);
        CHECK.due("8 . leaves all keys of the latest change", x.count(8), 30);
        makes("abcd", "xi.!.", "..bcd|0|a");
        makes("abcd", "r.l.", "..cd|1|");
    }

    private static void marks() {
        leadsTo("abcdef", "3lma0'a", 3);
        leadsTo("abcdef", "3lma09'a", 3);
        leadsTo("abcdef", "$ma3hD0d$'a", 0);
        leadsTo("abcdef", "$ma03x'a", 2);
        makes("abcdef", "$ma03xd'a", "|0|def");
        answers("abcdef", "'a", ModalKeys.NOT);
        answers("abcdef", "d'a", ModalKeys.NOT);
        answers("abcdef", "ma'b", ModalKeys.NOT);
        answers("abcdef", "ma'e", ModalKeys.NOT);
        answers("", "md", 0);
        leadsTo("abcdef", "lmallmd'a", 1);
        leadsTo("abcdef", "lma4lma0'a", 5);
    }

    private static void whatFailsChangesNothing() {
        String[] failing = {"5rx", "99p", "fz", "dtz", "'d", "dib", "q", "3q", "d'c", "yfz", "czz", "!", "dy", "cib"};
        for (String keys : failing) {
            ModalKeys x = Hand.after("ab cd", "xlmay2l");
            String look = Hand.look(x);
            String counts = Hand.counts(x);
            CHECK.due("8 " + keys + " fails", firstFailure(x, keys), ModalKeys.NOT);
            CHECK.due("8 " + keys + " leaves the line", Hand.look(x), look);
            CHECK.due("8 " + keys + " leaves the counts", Hand.counts(x), counts);
        }
    }

    private static int firstFailure(ModalKeys x, String keys) {
        int answer = 0;
        for (int i = 0; i < keys.length() && answer >= 0; i++) {
            answer = x.key(keys.charAt(i));
        }
        return answer;
    }

    private static void promise9() {
        ModalKeys x = Hand.on("one two");
        CHECK.due("9 price(-1, 1)", x.price(-1, 1), ModalKeys.BAD);
        CHECK.due("9 price(7, 1)", x.price(7, 1), ModalKeys.BAD);
        CHECK.due("9 price(0, 0)", x.price(0, 0), ModalKeys.BAD);
        CHECK.due("9 price(0, 10)", x.price(0, 10), ModalKeys.BAD);
        for (int motion = 0; motion < 7; motion++) {
            CHECK.due("9 price of " + motion + ", as it is", x.price(motion, 1), ModalKeys.NOT);
            CHECK.due("9 price of " + motion + ", new", x.price(motion, motion + 2), 1);
            CHECK.due("9 price of " + motion + ", as it is then", x.price(motion, motion + 2), ModalKeys.NOT);
            CHECK.due("9 price of " + motion + ", 9", x.price(motion, 9), motion + 2);
            CHECK.due("9 price of " + motion + ", back", x.price(motion, motion + 2), 9);
        }
        CHECK.due("9 prices count", x.steps(6, -2), 5);
    }
}
