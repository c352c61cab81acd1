/** Either end of THE LINE: what MOTIONS, RANGES and OBJECTS do there, for promises 8 and 10. */
public final class MotionEdgeTest {
    private static final Edge EDGE = new Edge("MotionEdgeTest");
    private static final int MAX = Integer.MAX_VALUE;
    private static final int MIN = Integer.MIN_VALUE;
    private static final String SIXTY = State.SIXTY;

    public static void main(String[] args) {
        EDGE.of("Promise 10", "Where a MOTION leads from a place (0 .. L). BAD.", MotionEdgeTest::placesThatLead);
        EDGE.of("Promise 10", "MOTIONS from a place p (0 .. L) lead to one (0 .. L), or FAIL", MotionEdgeTest::noneLeadsOut);
        EDGE.of("Promise 10", "0 h: p less 1 (0 at least).", MotionEdgeTest::h);
        EDGE.of("Promise 10", "1 l: p and 1 (L at most).", MotionEdgeTest::l);
        EDGE.of("Promise 10", "2 0: 0.", MotionEdgeTest::zero);
        EDGE.of("Promise 10", "3 $: L less 1 (0 at least).", MotionEdgeTest::end);
        EDGE.of("Promise 10", "4 w: over all LETTERS from p on that are of the CLASS of the one there (unless that is a blank),"
            + " then over blanks.", MotionEdgeTest::w);
        EDGE.of("Promise 10", "5 b: back over blanks ahead of p, then over all LETTERS of the CLASS of the one that is ahead then.",
            MotionEdgeTest::b);
        EDGE.of("Promise 10", "6 e: from p and 1 on over blanks, then to the last of the LETTERS of the CLASS of the one there;",
            MotionEdgeTest::e);
        EDGE.of("Promise 10", "L less 1 (0 at least), if there are only blanks, or none.", MotionEdgeTest::eWithoutAWord);
        EDGE.of("Promise 8", "f and a LETTER: the next place behind p that has it; FAILS, if there is none.", MotionEdgeTest::f);
        EDGE.of("Promise 8", "t and a LETTER: as f, then 1 less.", MotionEdgeTest::t);
        EDGE.of("Promise 8", "' and a MARK's letter: that place (L at most);", MotionEdgeTest::toMark);
        EDGE.of("Promise 8", "FAILS: there is no such MARK.", MotionEdgeTest::toNoMark);
        EDGE.of("Promise 8", "n times: one behind the other (t: f n times, then 1 less).", MotionEdgeTest::manyTimes);
        EDGE.of("Promise 8", "As a deed THE CURSOR goes there (L less 1 at most).", MotionEdgeTest::asDeeds);
        EDGE.of("Promise 8", "A RANGE by a MOTION: from the lesser of THE CURSOR and where that leads, to ahead of the greater one;",
            MotionEdgeTest::ranges);
        EDGE.of("Promise 8", "by $ e f t with that place, too (as far as there are LETTERS).", MotionEdgeTest::rangesWithThePlace);
        EDGE.of("Promise 8", "iw: all LETTERS side by side round THE CURSOR of the CLASS of the one there;", MotionEdgeTest::iw);
        EDGE.of("Promise 8", "aw: with all blanks behind them;", MotionEdgeTest::aw);
        EDGE.of("Promise 8", "FAIL, if L is 0.", MotionEdgeTest::noWordIfEmpty);
        EDGE.of("Promise 8", "ib: what is between the nearest ( and ) round THE CURSOR", MotionEdgeTest::ib);
        EDGE.of("Promise 8", "a ( is nearest by going left from THE CURSOR, itself, too, over pairs;", MotionEdgeTest::nearestOpening);
        EDGE.of("Promise 8", "a ) at THE CURSOR is no end of a pair;", MotionEdgeTest::closingAtTheCursor);
        EDGE.of("Promise 8", "its ) by going right over pairs, from there on", MotionEdgeTest::closingOfIt);
        EDGE.of("Promise 8", "ab: with these;", MotionEdgeTest::ab);
        EDGE.of("Promise 8", "FAIL, if there is none of both.", MotionEdgeTest::noBrackets);
        EDGE.of("Promise 8", "By the same key twice: all of THE LINE.", MotionEdgeTest::theSameKeyTwice);
        EDGE.end();
    }

    /** Where a motion leads from place 0, 1, .. L of a line, and that there is no place beyond. */
    private static void leads(int motion, String line, int... due) {
        ModalKeys x = Hand.on(line);
        EDGE.due("all places of \"" + line + "\"", due.length, line.length() + 1);
        for (int from = 0; from < due.length; from++) {
            EDGE.due("\"" + line + "\": leads(" + motion + ", " + from + ")", x.leads(motion, from), due[from]);
        }
        EDGE.due("\"" + line + "\": leads(" + motion + ", -1)", x.leads(motion, -1), ModalKeys.BAD);
        EDGE.due("\"" + line + "\": leads(" + motion + ", L + 1)", x.leads(motion, line.length() + 1), ModalKeys.BAD);
    }

    private static void placesThatLead() {
        for (String line : new String[] {"", "a", "ab cd", SIXTY}) {
            int length = line.length();
            for (int motion = 0; motion < 7; motion++) {
                int m = motion;
                EDGE.refused("leads(" + m + ", -1)", State.after(line, ""), x -> x.leads(m, -1), ModalKeys.BAD);
                EDGE.refused("leads(" + m + ", L + 1)", State.after(line, ""), x -> x.leads(m, length + 1), ModalKeys.BAD);
                EDGE.holds("leads(" + m + ", 0)", Hand.on(line).leads(m, 0) >= 0);
                EDGE.holds("leads(" + m + ", L)", Hand.on(line).leads(m, length) >= 0);
            }
        }
        for (int motion : new int[] {-1, 7, 8, MIN, MAX}) {
            EDGE.refusedEverywhere("leads(" + motion + ", 0)", x -> x.leads(motion, 0), ModalKeys.BAD);
        }
        for (int from : new int[] {MIN, -60, 61, MAX}) {
            EDGE.refusedEverywhere("leads(3, " + from + ")", x -> x.leads(3, from), ModalKeys.BAD);
        }
        EDGE.due("from L while one INSERTS there", Hand.after("ab", "Aq").leads(0, 3), 2);
        EDGE.due("beyond L while one INSERTS there", Hand.after("ab", "Aq").leads(0, 4), ModalKeys.BAD);
    }

    private static void noneLeadsOut() {
        for (String line : new String[] {"", " ", "a", "ab cd", "  a;;b  ", "   ", SIXTY, " ".repeat(60), "a ".repeat(30)}) {
            ModalKeys x = Hand.on(line);
            for (int motion = 0; motion < 7; motion++) {
                for (int from = 0; from <= line.length(); from++) {
                    int to = x.leads(motion, from);
                    EDGE.holds("\"" + line + "\": leads(" + motion + ", " + from + ") is " + to, to >= 0 && to <= line.length());
                }
            }
        }
    }

    private static void h() {
        leads(0, "", 0);
        leads(0, "a", 0, 0);
        leads(0, "abc", 0, 0, 1, 2);
        EDGE.stands("abc", "h", 0);
        EDGE.stands("abc", "lh", 0);
        EDGE.stands("abc", "lhh", 0);
        EDGE.stands("abc", "$h", 1);
        EDGE.stands("abc", "$2h", 0);
        EDGE.stands("abc", "$3h", 0);
        EDGE.answers("", "h", 0);
        EDGE.stands("", "h", 0);
    }

    private static void l() {
        leads(1, "", 0);
        leads(1, "a", 1, 1);
        leads(1, "abc", 1, 2, 3, 3);
        EDGE.due("from 59", Hand.on(SIXTY).leads(1, 59), 60);
        EDGE.due("from 60", Hand.on(SIXTY).leads(1, 60), 60);
        EDGE.stands("abc", "l", 1);
        EDGE.stands("abc", "ll", 2);
        EDGE.stands("abc", "lll", 2);
        EDGE.answers("abc", "lll", 0);
        EDGE.stands("", "l", 0);
    }

    private static void zero() {
        leads(2, "", 0);
        leads(2, " ab", 0, 0, 0, 0);
        EDGE.stands("abc", "0", 0);
        EDGE.stands("abc", "l0", 0);
        EDGE.stands("abc", "$0", 0);
        EDGE.answers("", "0", 0);
    }

    private static void end() {
        leads(3, "", 0);
        leads(3, "a", 0, 0);
        leads(3, "ab ", 2, 2, 2, 2);
        EDGE.due("from 0 of 60", Hand.on(SIXTY).leads(3, 0), 59);
        EDGE.due("from 60 of 60", Hand.on(SIXTY).leads(3, 60), 59);
        EDGE.stands("", "$", 0);
        EDGE.stands("a", "$", 0);
        EDGE.stands("ab", "$", 1);
        EDGE.stands("ab", "$$", 1);
    }

    private static void w() {
        leads(4, "", 0);
        leads(4, "a", 1, 1);
        leads(4, " ", 1, 1);
        leads(4, "ab cd", 3, 3, 3, 5, 5, 5);
        leads(4, "ab  ", 4, 4, 4, 4, 4);
        leads(4, "  ab", 2, 2, 4, 4, 4);
        leads(4, "a;;b", 1, 3, 3, 4, 4);
        leads(4, "a; b", 1, 3, 3, 4, 4);
        EDGE.due("over sixty", Hand.on(SIXTY).leads(4, 0), 60);
        EDGE.due("over sixty blanks", Hand.on(" ".repeat(60)).leads(4, 0), 60);
        EDGE.stands("ab cd", "w", 3);
        EDGE.stands("ab cd", "ww", 4);
        EDGE.stands("ab cd", "www", 4);
        EDGE.stands("", "w", 0);
    }

    private static void b() {
        leads(5, "", 0);
        leads(5, "a", 0, 0);
        leads(5, " ", 0, 0);
        leads(5, "ab cd", 0, 0, 0, 0, 3, 3);
        leads(5, "  ab", 0, 0, 0, 2, 2);
        leads(5, "ab  ", 0, 0, 0, 0, 0);
        leads(5, ";;ab", 0, 0, 0, 2, 2);
        leads(5, "ab; ", 0, 0, 0, 2, 2);
        EDGE.due("over sixty", Hand.on(SIXTY).leads(5, 60), 0);
        EDGE.due("over sixty blanks", Hand.on(" ".repeat(60)).leads(5, 60), 0);
        EDGE.stands("ab cd", "b", 0);
        EDGE.stands("ab cd", "$b", 3);
        EDGE.stands("ab cd", "$bb", 0);
        EDGE.stands("ab cd", "$bbb", 0);
        EDGE.stands("", "b", 0);
    }

    private static void e() {
        leads(6, "ab cd", 1, 4, 4, 4, 4, 4);
        leads(6, " ab cd", 2, 2, 5, 5, 5, 5, 5);
        leads(6, "a;;b", 2, 2, 3, 3, 3);
        leads(6, "a bb;", 3, 3, 3, 4, 4, 4);
        EDGE.due("to the sixtieth", Hand.on(SIXTY).leads(6, 0), 59);
        EDGE.due("from the 59th", Hand.on(SIXTY).leads(6, 58), 59);
        EDGE.stands("ab cd", "e", 1);
        EDGE.stands("ab cd", "ee", 4);
        EDGE.stands("ab cd", "eee", 4);
    }

    private static void eWithoutAWord() {
        leads(6, "", 0);
        leads(6, "a", 0, 0);
        leads(6, " ", 0, 0);
        leads(6, "   ", 2, 2, 2, 2);
        leads(6, "ab  ", 1, 3, 3, 3, 3);
        leads(6, "a  b", 3, 3, 3, 3, 3);
        EDGE.due("only blanks, to the sixtieth", Hand.on("a" + " ".repeat(59)).leads(6, 0), 59);
        EDGE.due("from 60", Hand.on(SIXTY).leads(6, 60), 59);
        EDGE.stands("ab  ", "2e", 3);
        EDGE.stands("", "e", 0);
        EDGE.answers("", "e", 0);
    }

    private static void f() {
        EDGE.stands("abab", "fb", 1);
        EDGE.stands("abab", "fa", 2);
        EDGE.stands("abab", "2fb", 3);
        EDGE.stands("abab", "fbfb", 3);
        EDGE.stands("aa", "fa", 1);
        EDGE.stands("a ~", "f ", 1);
        EDGE.stands("a ~", "f~", 2);
        EDGE.stands("a3!", "f3", 1);
        EDGE.stands("a3!", "f!", 2);
        EDGE.due("the last of sixty", Hand.cursor(Hand.after(SIXTY, "f7")), 59);
        EDGE.fails("abab", "", "fc");
        EDGE.fails("abab", "", "2fa");
        EDGE.fails("abab", "", "3fb");
        EDGE.fails("abab", "$", "fb");
        EDGE.fails("abab", "$", "fa");
        EDGE.fails("abab", "l", "2fb");
        EDGE.fails("a", "", "fa");
        EDGE.fails("", "", "fa");
        EDGE.fails("abab", "x", "dfc");
        EDGE.fails("abab", "x", "yfc");
        EDGE.fails("abab", "x", "cfc");
        for (int letter : new int[] {31, 127, MIN, MAX}) {
            EDGE.refused("key(" + letter + ")", State.after("abab", "f"), x -> x.key(letter), ModalKeys.BAD);
        }
    }

    private static void t() {
        EDGE.stands("abab", "tb", 0);
        EDGE.stands("abab", "ta", 1);
        EDGE.stands("abab", "2tb", 2);
        EDGE.stands("abab", "tbtb", 0);
        EDGE.stands("aa", "ta", 0);
        EDGE.due("the last of sixty", Hand.cursor(Hand.after(SIXTY, "t7")), 58);
        EDGE.answers("abab", "tb", 0);
        EDGE.fails("abab", "", "tc");
        EDGE.fails("abab", "", "2ta");
        EDGE.fails("abab", "", "3tb");
        EDGE.fails("abab", "$", "tb");
        EDGE.fails("a", "", "ta");
        EDGE.fails("", "", "ta");
        EDGE.fails("abab", "x", "dtc");
        EDGE.fails("abab", "x", "ytc");
        EDGE.fails("abab", "x", "ctc");
        EDGE.refused("key(127)", State.after("abab", "dt"), x -> x.key(127), ModalKeys.BAD);
    }

    /** A mark at 3 of a line that becomes shorter: inside it, at L - 1, at L, beyond L; the range tells the place. */
    private static void toMark() {
        EDGE.stands("abcde", "$hma0'a", 3);
        EDGE.makes("abcde", "$hma0d'a", "de|0|abc");
        EDGE.makes("abcde", "$hma0xd'a", "e|0|bcd");
        EDGE.makes("abcde", "$hma02xd'a", "|0|cde");
        EDGE.makes("abcde", "$hma03xd'a", "|0|de");
        EDGE.stands("abcde", "$hma0x'a", 3);
        EDGE.stands("abcde", "$hma02x'a", 2);
        EDGE.stands("abcde", "$hma03x'a", 1);
        EDGE.stands("abcde", "$hma04x'a", 0);
        EDGE.makes("abcde", "$hmadd'a", "|0|abcde");
        EDGE.answers("abcde", "$hmadd'a", 0);
        EDGE.makes("abcde", "$hmaddd'a", "|0|abcde");
        EDGE.stands("abcde", "ma$'a", 0);
        EDGE.stands("", "ma'a", 0);
        for (int k = 0; k < 4; k++) {
            char letter = (char) ('a' + k);
            EDGE.stands("abcde", "llm" + letter + "$'" + letter, 2);
        }
        EDGE.due("at 59 of 60", Hand.cursor(Hand.after(SIXTY, "$ma0'a")), 59);
        EDGE.due("mark(0) beyond L", Hand.after("abcde", "$hma03x'a").mark(0), 3);
    }

    private static void toNoMark() {
        for (char letter = 'a'; letter <= 'd'; letter++) {
            EDGE.fails("abcde", "l", "'" + letter);
            EDGE.fails("abcde", "l", "d'" + letter);
            EDGE.fails("abcde", "l", "y'" + letter);
            EDGE.fails("abcde", "l", "c'" + letter);
        }
        EDGE.fails("abcde", "lmambmc$", "'d");
        EDGE.fails("abcde", "lmbmcmd$", "'a");
        EDGE.fails("abcde", "lmambmcmd$", "'e");
        EDGE.fails("abcde", "lmambmcmd$", "'`");
        EDGE.fails("abcde", "lmambmcmd$", "'A");
        EDGE.fails("abcde", "lmambmcmd$", "3'e");
        EDGE.answers("abcde", "lmambmcmd$'d", 0);
        EDGE.answers("abcde", "lmambmcmd$'a", 0);
    }

    private static void manyTimes() {
        int[] times = {1, 2, 58, 59, 60, 61, 99};
        int[] due = {1, 2, 58, 59, 59, 59, 59};
        for (int i = 0; i < times.length; i++) {
            EDGE.stands(SIXTY, times[i] + "l", due[i]);
            EDGE.stands(SIXTY, "$" + times[i] + "h", 59 - due[i]);
        }
        EDGE.stands("a b c", "2w", 4);
        EDGE.stands("a b c", "3w", 4);
        EDGE.makes("a b c", "d2w", "c|0|a b ");
        EDGE.makes("a b c", "d3w", "|0|a b c");
        EDGE.makes("a b c", "d4w", "|0|a b c");
        EDGE.stands("a b c", "$2b", 0);
        EDGE.stands("a b c", "$3b", 0);
        EDGE.stands("a b c", "2e", 4);
        EDGE.stands("a b c", "99e", 4);
        EDGE.stands("a b c", "99$", 4);
        EDGE.stands("aaaa", "2ta", 1);
        EDGE.stands("aaaa", "3ta", 2);
        EDGE.stands("aaaa", "tata", 0);
        EDGE.fails("aaaa", "", "4ta");
        EDGE.fails("aaaa", "", "4fa");
        EDGE.stands("aaaa", "3fa", 3);
        EDGE.stands("a".repeat(60), "59fa", 59);
        EDGE.stands("a".repeat(60), "59ta", 58);
        EDGE.fails("a".repeat(60), "", "60fa");
        EDGE.fails("a".repeat(60), "", "99ta");
        EDGE.stands("abcde", "3lma099'a", 3);
    }

    private static void asDeeds() {
        EDGE.stands("abc", "$l", 2);
        EDGE.stands("abc", "ll", 2);
        EDGE.stands("abc", "w", 2);
        EDGE.stands("ab ", "w", 2);
        EDGE.stands("abc", "$maxx'a", 0);
        EDGE.stands("abc", "$max'a", 1);
        EDGE.stands("", "99l", 0);
        EDGE.stands("", "w", 0);
        EDGE.due("w of sixty", Hand.cursor(Hand.after(SIXTY, "w")), 59);
        EDGE.due("no CHANGE", Hand.after("abc", "$lw").count(6), 0);
    }

    private static void ranges() {
        EDGE.makes("abc", "dh", "abc|0|");
        EDGE.makes("abc", "ldh", "bc|0|a");
        EDGE.makes("abc", "$dh", "ac|1|b");
        EDGE.makes("abc", "$d2h", "c|0|ab");
        EDGE.makes("abc", "$d3h", "c|0|ab");
        EDGE.makes("abc", "dl", "bc|0|a");
        EDGE.makes("abc", "$dl", "ab|1|c");
        EDGE.makes("abc", "ld2l", "a|0|bc");
        EDGE.makes("abc", "ld3l", "a|0|bc");
        EDGE.makes("abc", "d0", "abc|0|");
        EDGE.makes("abc", "$d0", "c|0|ab");
        EDGE.makes("ab cd", "dw", "cd|0|ab ");
        EDGE.makes("ab cd", "wdw", "ab |2|cd");
        EDGE.makes("ab cd", "$dw", "ab c|3|d");
        EDGE.makes("ab cd", "db", "ab cd|0|");
        EDGE.makes("ab cd", "ldb", "b cd|0|a");
        EDGE.makes("ab cd", "$d2b", "d|0|ab c");
        EDGE.makes("abc", "mald'a", "bc|0|a");
        EDGE.makes("abc", "lma0d'a", "bc|0|a");
        EDGE.makes("abc", "lmad'a", "abc|1|");
        EDGE.due("dl of sixty", Hand.after(SIXTY, "$dl").count(0), 59);
        EDGE.due("d59l of sixty", Hand.lineOf(Hand.after(SIXTY, "d59l")), "7");
        EDGE.due("d60l of sixty", Hand.lineOf(Hand.after(SIXTY, "d60l")), "");
    }

    private static void rangesWithThePlace() {
        EDGE.makes("abc", "d$", "|0|abc");
        EDGE.makes("abc", "ld$", "a|0|bc");
        EDGE.makes("abc", "$d$", "ab|1|c");
        EDGE.makes("", "d$", "|0|");
        EDGE.makes("ab cd", "de", " cd|0|ab");
        EDGE.makes("ab cd", "lde", "a|0|b cd");
        EDGE.makes("ab cd", "$de", "ab c|3|d");
        EDGE.makes("ab  ", "lde", "a|0|b  ");
        EDGE.makes("", "de", "|0|");
        EDGE.makes("a", "de", "|0|a");
        EDGE.makes("abab", "dfb", "ab|0|ab");
        EDGE.makes("abab", "d2fb", "|0|abab");
        EDGE.makes("abab", "dta", "ab|0|ab");
        EDGE.makes("abab", "dtb", "bab|0|a");
        EDGE.makes("abab", "d2tb", "b|0|aba");
        EDGE.due("d$ of sixty", Hand.storeOf(Hand.after(SIXTY, "d$")), SIXTY);
        EDGE.due("df of sixty", Hand.storeOf(Hand.after(SIXTY, "df7")), SIXTY);
        EDGE.due("dt of sixty", Hand.storeOf(Hand.after(SIXTY, "dt7")), SIXTY.substring(0, 59));
    }

    private static void iw() {
        EDGE.makes("ab cd", "diw", " cd|0|ab");
        EDGE.makes("ab cd", "ldiw", " cd|0|ab");
        EDGE.makes("ab cd", "2ldiw", "abcd|2| ");
        EDGE.makes("ab cd", "3ldiw", "ab |2|cd");
        EDGE.makes("ab cd", "4ldiw", "ab |2|cd");
        EDGE.makes("a", "diw", "|0|a");
        EDGE.makes("   ", "ldiw", "|0|   ");
        EDGE.makes("a;;b", "diw", ";;b|0|a");
        EDGE.makes("a;;b", "ldiw", "ab|1|;;");
        EDGE.makes("a;;b", "2ldiw", "ab|1|;;");
        EDGE.makes("a;;b", "$diw", "a;;|2|b");
        EDGE.due("of sixty", Hand.storeOf(Hand.after(SIXTY, "30ldiw")), SIXTY);
    }

    private static void aw() {
        EDGE.makes("ab  cd", "daw", "cd|0|ab  ");
        EDGE.makes("ab  cd", "ldaw", "cd|0|ab  ");
        EDGE.makes("ab  cd", "2ldaw", "abcd|2|  ");
        EDGE.makes("ab  cd", "$daw", "ab  |3|cd");
        EDGE.makes("ab  ", "daw", "|0|ab  ");
        EDGE.makes("ab;  c", "daw", ";  c|0|ab");
        EDGE.makes("ab;  c", "2ldaw", "abc|2|;  ");
        EDGE.makes("a", "daw", "|0|a");
        EDGE.makes("  ", "daw", "|0|  ");
        EDGE.due("of sixty", Hand.storeOf(Hand.after("a" + " ".repeat(59), "daw")), "a" + " ".repeat(59));
    }

    private static void noWordIfEmpty() {
        for (String keys : new String[] {"diw", "daw", "yiw", "yaw", "ciw", "caw", "2d3iw"}) {
            EDGE.fails("", "", keys);
            EDGE.fails("a", "x", keys);
        }
        EDGE.answers("a", "diw", 0);
        EDGE.answers(" ", "daw", 0);
    }

    private static void ib() {
        EDGE.makes("(a)", "dib", "()|1|a");
        EDGE.makes("(a)", "ldib", "()|1|a");
        EDGE.makes("(a)", "2ldib", "()|1|a");
        EDGE.makes("()", "dib", "()|1|");
        EDGE.makes("()", "ldib", "()|1|");
        EDGE.makes("x(ab)y", "ldib", "x()y|2|ab");
        EDGE.makes("x(ab)y", "4ldib", "x()y|2|ab");
        EDGE.fails("x(ab)y", "", "dib");
        EDGE.fails("x(ab)y", "$", "dib");
        String inside = SIXTY.substring(0, 58);
        EDGE.due("58 of sixty", Hand.storeOf(Hand.after("(" + inside + ")", "30ldib")), inside);
    }

    private static void nearestOpening() {
        EDGE.makes("(a(b)c)", "dib", "()|1|a(b)c");
        EDGE.makes("(a(b)c)", "ldib", "()|1|a(b)c");
        EDGE.makes("(a(b)c)", "2ldib", "(a()c)|3|b");
        EDGE.makes("(a(b)c)", "3ldib", "(a()c)|3|b");
        EDGE.makes("(a(b)c)", "5ldib", "()|1|a(b)c");
        EDGE.makes("(a()()c)", "6ldib", "()|1|a()()c");
        EDGE.makes("(a(()())c)", "8ldib", "()|1|a(()())c");
        EDGE.fails("(a)b", "$", "dib");
        EDGE.fails("(a))b", "$", "dib");
    }

    private static void closingAtTheCursor() {
        EDGE.makes("(a(b)c)", "4ldib", "(a()c)|3|b");
        EDGE.makes("(a(b)c)", "6ldib", "()|1|a(b)c");
        EDGE.makes("(())", "2ldab", "()|1|()");
        EDGE.makes("(())", "3ldab", "|0|(())");
        EDGE.fails("(a))", "$", "dib");
        EDGE.fails(")", "", "dib");
    }

    private static void closingOfIt() {
        EDGE.makes("((a)(b)c)", "dib", "()|1|(a)(b)c");
        EDGE.makes("((a)(b)c)", "ldib", "(()(b)c)|2|a");
        EDGE.makes("((a)(b)c)", "4ldib", "((a)()c)|5|b");
        EDGE.makes("(a)b)", "dib", "()b)|1|a");
        EDGE.fails("((a)", "", "dib");
        EDGE.fails("(a(b)", "l", "dib");
        EDGE.makes("(a(b)", "2ldib", "(a()|3|b");
    }

    private static void ab() {
        EDGE.makes("(a)", "dab", "|0|(a)");
        EDGE.makes("()", "dab", "|0|()");
        EDGE.makes("()", "$dab", "|0|()");
        EDGE.makes("x()", "$dab", "x|0|()");
        EDGE.makes("x(ab)y", "2ldab", "xy|1|(ab)");
        EDGE.fails("x(ab)y", "", "dab");
        EDGE.fails("x(ab)y", "$", "dab");
        String all = "(" + SIXTY.substring(0, 58) + ")";
        EDGE.due("all of sixty", Hand.storeOf(Hand.after(all, "$dab")), all);
    }

    private static void noBrackets() {
        String[] lines = {"", "a", "(", ")", "(a", "a)", ")(", "a(b", "a)b", "))", "(("};
        for (String line : lines) {
            for (String keys : new String[] {"dib", "dab", "yib", "cab"}) {
                EDGE.fails(line, "", keys);
                EDGE.fails(line, "$", keys);
            }
        }
        EDGE.answers("()", "dib", 0);
        EDGE.answers("()", "$dab", 0);
    }

    private static void theSameKeyTwice() {
        EDGE.makes("", "dd", "|0|");
        EDGE.answers("", "dd", 0);
        EDGE.makes("", "yy", "|0|");
        EDGE.makes("a", "dd", "|0|a");
        EDGE.makes("a b", "$dd", "|0|a b");
        EDGE.makes("a b", "$yy", "a b|0|a b");
        EDGE.makes("a b", "$ccq!", "q|0|a b");
        EDGE.makes("a b", "2d3d", "|0|a b");
        EDGE.due("of sixty", Hand.storeOf(Hand.after(SIXTY, "30ldd")), SIXTY);
        EDGE.fails("a b", "l", "dy");
        EDGE.fails("a b", "l", "yc");
        EDGE.fails("a b", "l", "cd");
    }
}
