/** Where SHEETS end: the sentences of the document that name a boundary, for promises 18 to 23. */
public final class SheetEdgeTest {
    private static final Edge EDGE = new Edge("SheetEdgeTest");
    private static final int MAX = Integer.MAX_VALUE;
    private static final int MIN = Integer.MIN_VALUE;
    private static final int[] NO_FOUR = {-1, 4, 5, 256, MIN, MAX};
    private static final String SIXTY = State.SIXTY;

    public static void main(String[] args) {
        plays();
        films();
        rows();
        copies();
        EDGE.of("Promises 18 to 23", "What is refused changes nothing, but as told.", SheetEdgeTest::eachAnswerChangesNothing);
        EDGE.end();
    }

    private static void plays() {
        EDGE.of("Promise 18", "n items (1 .. 24) of a SHEET taken as a row of a LANE, from item i on, are struck as KEYS,"
            + " one behind the other", SheetEdgeTest::oneToTwentyFourArePlayed);
        EDGE.of("Promise 18", "how many COMMANDS FAILED (or LETTERS were FULL).", SheetEdgeTest::howManyFailed);
        EDGE.of("Promise 18", "NOT: an item is no KEY (nothing is struck then).", SheetEdgeTest::noKey);
        EDGE.of("Promise 18", "BAD; NULL; CAST; INDEX; NOT:", SheetEdgeTest::orderOfPlay);
        EDGE.of("Promise 18", "(NULL, CAST, INDEX, SIZE in this order)", SheetEdgeTest::indexOfPlay);
    }

    private static void films() {
        EDGE.of("Promise 19", "n LETTERS (1 .. 24) of THE LINE from a place on, an item each, come to a SHEET likewise: n.",
            SheetEdgeTest::oneToTwentyFourAreFilmed);
        EDGE.of("Promise 19", "BAD: not so many there, too;", SheetEdgeTest::notSoManyThere);
        EDGE.of("Promise 19", "too; NULL; CAST; INDEX.", SheetEdgeTest::orderOfFilm);
    }

    private static void rows() {
        EDGE.of("Promise 20", "nothing (at first), or a row of a LANE: 0 bytes, 1 shorts, 2 ints, 3 longs, of 0 to 24 items.",
            SheetEdgeTest::noneToTwentyFourItems);
        EDGE.of("Promise 20", "BAD: also n above 24;", SheetEdgeTest::aboveTwentyFour);
        EDGE.of("Promise 20", "SIZE: n below 0.", SheetEdgeTest::belowNone);
        EDGE.of("Promise 20", "A SHEET holds a new row of a LANE: n.", SheetEdgeTest::newRows);
        EDGE.of("Promise 21", "A SHEET holds nothing: how many items it had.", SheetEdgeTest::howManyItHad);
        EDGE.of("Promise 21", "BAD; NULL.", SheetEdgeTest::nothingToDrop);
        EDGE.of("Promise 22", "Item i of a SHEET, taken as a row of a LANE, becomes v,", SheetEdgeTest::itemsOfARow);
        EDGE.of("Promise 22", "its lowest bits: 1.", SheetEdgeTest::lowestBits);
        EDGE.of("Promise 22", "BAD; NULL; CAST; INDEX.", SheetEdgeTest::orderOfItem);
    }

    private static void copies() {
        EDGE.of("Promise 23", "n items of a SHEET from i on come to another one (or the same) from j on", SheetEdgeTest::copied);
        EDGE.of("Promise 23", "as if all were taken ahead: n.", SheetEdgeTest::takenAhead);
        EDGE.of("Promise 23", "BAD; NULL (either); CAST: of unlike LANES; INDEX.", SheetEdgeTest::orderOfCopy);
        EDGE.of("Promise 23", "CAST: of unlike LANES; INDEX.", SheetEdgeTest::indexOfCopy);
    }

    /** The items of a row, by inserting them one by one into an empty line; ? for what is no key. */
    private static String items(ModalKeys x, int sheet, int lane) {
        StringBuilder b = new StringBuilder();
        for (int i = 0; i < 24; i++) {
            Hand.tell(x, "");
            x.key('i');
            int answer = x.play(sheet, lane, i, 1);
            if (answer == ModalKeys.INDEX) {
                return b.toString();
            }
            b.append(answer == ModalKeys.NOT ? '?' : (char) x.letter(0));
        }
        return b.toString();
    }

    private static ModalKeys written(int lane, String text) {
        ModalKeys x = Hand.on("one two");
        Hand.write(x, 0, lane, text);
        return x;
    }

    private static State sheet(int lane, String text) {
        return new State("a sheet of lane " + lane + " with " + text, () -> written(lane, text));
    }

    private static void oneToTwentyFourArePlayed() {
        String row = "x".repeat(24);
        for (int lane = 0; lane < 4; lane++) {
            int l = lane;
            for (int n : new int[] {0, 25, -1, 26, 256 + 1, MIN, MAX}) {
                EDGE.refused("play(0, " + l + ", 0, " + n + ")", sheet(l, row), x -> x.play(0, l, 0, n), ModalKeys.BAD);
            }
            for (int n : new int[] {1, 2, 23, 24}) {
                ModalKeys x = Hand.on(SIXTY);
                Hand.write(x, 0, l, row);
                EDGE.due("play of " + n, x.play(0, l, 24 - n, n), 0);
                EDGE.due(n + " were struck", Hand.lineOf(x), SIXTY.substring(n));
            }
        }
        EDGE.refusedEverywhere("play(0, 0, 0, 0)", x -> x.play(0, 0, 0, 0), ModalKeys.BAD);
        EDGE.refusedEverywhere("play(1, 0, 0, 25)", x -> x.play(1, 0, 0, 25), ModalKeys.BAD);
        for (int wrong : NO_FOUR) {
            EDGE.refusedEverywhere("play(" + wrong + ", 0, 0, 1)", x -> x.play(wrong, 0, 0, 1), ModalKeys.BAD);
            EDGE.refusedEverywhere("play(1, " + wrong + ", 0, 1)", x -> x.play(1, wrong, 0, 1), ModalKeys.BAD);
        }
        ModalKeys x = written(3, "2dwiq!");
        EDGE.due("one behind the other", x.play(0, 3, 0, 6), 0);
        EDGE.due("as keys", Hand.look(x), "q|0|one two");
        ModalKeys y = Hand.after("one two", "2");
        Hand.write(y, 3, 1, "x");
        EDGE.due("behind a number", y.play(3, 1, 0, 1), 0);
        EDGE.due("two went", Hand.lineOf(y), "e two");
    }

    private static void howManyFailed() {
        EDGE.due("none", written(0, "lhlh").play(0, 0, 0, 4), 0);
        EDGE.due("one", written(0, "lqlh").play(0, 0, 0, 4), 1);
        EDGE.due("all of 24", written(0, "q".repeat(24)).play(0, 0, 0, 24), 24);
        EDGE.due("23 of 24", written(0, "q".repeat(23) + "l").play(0, 0, 0, 24), 23);
        EDGE.due("a NUMBER with it is one", written(0, "3ql").play(0, 0, 0, 3), 1);
        EDGE.due("what is not whole is none", written(0, "2d").play(0, 0, 0, 2), 0);
        ModalKeys x = Hand.on(SIXTY.substring(2));
        Hand.write(x, 0, 0, "iabcd!q");
        EDGE.due("two were FULL, one FAILED", x.play(0, 0, 0, 7), 3);
        EDGE.due("two came", Hand.lineOf(x), "ab" + SIXTY.substring(2));
        ModalKeys y = Hand.after(SIXTY, "i");
        Hand.write(y, 0, 0, "z".repeat(24));
        EDGE.due("24 were FULL", y.play(0, 0, 0, 24), 24);
        EDGE.due("one inserts still", y.count(2), 1);
        EDGE.due("a . that FAILS", written(0, "..x").play(0, 0, 0, 3), 2);
    }

    private static void noKey() {
        for (int lane = 0; lane < 4; lane++) {
            int l = lane;
            for (int item : new int[] {32, 126}) {
                ModalKeys x = Hand.after("", "i");
                x.sheet(0, l, 1);
                x.item(0, l, 0, item);
                EDGE.due("item " + item + " is a KEY", x.play(0, l, 0, 1), 0);
                EDGE.due("it was struck", x.letter(0), item);
            }
            for (long item : new long[] {31, 127, 0, -1, -128}) {
                for (int at = 0; at < 3; at++) {
                    State state = withItem(l, at, item);
                    EDGE.refused("play of all three", state, x -> x.play(0, l, 0, 3), ModalKeys.NOT);
                    EDGE.due(state.name + ": those ahead of it", at == 0 ? 0 : state.make().play(0, l, 0, at), 0);
                    EDGE.due(state.name + ": those behind it", at == 2 ? 0 : state.make().play(0, l, at + 1, 2 - at), 0);
                }
            }
        }
        State zeros = new State("a new row", () -> {
            ModalKeys x = Hand.on("one two");
            x.sheet(0, 2, 2);
            return x;
        });
        EDGE.refused("play of one", zeros, x -> x.play(0, 2, 0, 1), ModalKeys.NOT);
        EDGE.refused("play of both", zeros, x -> x.play(0, 2, 0, 2), ModalKeys.NOT);
        EDGE.refusedWithSheets("play(3, 3, 4, 1)", x -> x.play(3, 3, 4, 1), ModalKeys.NOT);
        EDGE.refusedWithSheets("play(3, 3, 0, 5)", x -> x.play(3, 3, 0, 5), ModalKeys.NOT);
    }

    private static State withItem(int lane, int at, long item) {
        return new State("lane " + lane + " with " + item + " at " + at, () -> {
            ModalKeys x = written(lane, "xxx");
            x.item(0, lane, at, item);
            return x;
        });
    }

    private static void orderOfPlay() {
        EDGE.refusedWithSheets("BAD (n), NULL", x -> x.play(0, 0, 0, 0), ModalKeys.BAD);
        EDGE.refusedWithSheets("BAD (lane), NULL", x -> x.play(0, 4, 0, 1), ModalKeys.BAD);
        EDGE.refusedWithSheets("BAD (n), CAST", x -> x.play(3, 0, 0, 25), ModalKeys.BAD);
        EDGE.refusedWithSheets("BAD (n), INDEX", x -> x.play(3, 3, 9, 0), ModalKeys.BAD);
        EDGE.refusedWithSheets("BAD (n), NOT", x -> x.play(3, 3, 4, 0), ModalKeys.BAD);
        EDGE.refusedWithSheets("BAD (sheet), INDEX", x -> x.play(4, 3, 99, 1), ModalKeys.BAD);
        EDGE.refusedEverywhere("NULL", x -> x.play(0, 0, 0, 1), ModalKeys.NULL);
        EDGE.refusedEverywhere("NULL, INDEX", x -> x.play(0, 3, -1, 24), ModalKeys.NULL);
        EDGE.refusedWithSheets("CAST", x -> x.play(3, 2, 0, 1), ModalKeys.CAST);
        EDGE.refusedWithSheets("CAST, INDEX", x -> x.play(3, 0, 5, 1), ModalKeys.CAST);
        EDGE.refusedWithSheets("CAST of a row of none, INDEX", x -> x.play(2, 0, 0, 1), ModalKeys.CAST);
        EDGE.refusedWithSheets("CAST, NOT", x -> x.play(3, 1, 4, 1), ModalKeys.CAST);
        EDGE.refusedWithSheets("INDEX, NOT", x -> x.play(3, 3, 4, 2), ModalKeys.INDEX);
        EDGE.refusedWithSheets("INDEX of a row of none", x -> x.play(2, 1, 0, 1), ModalKeys.INDEX);
        for (int lane = 0; lane < 4; lane++) {
            for (int as = 0; as < 4; as++) {
                int l = lane;
                int a = as;
                if (l == a) {
                    EDGE.due("lane " + l + " as it is", written(l, "l").play(0, a, 0, 1), 0);
                } else {
                    EDGE.refused("lane " + l + " as " + a, sheet(l, "l"), x -> x.play(0, a, 0, 1), ModalKeys.CAST);
                }
            }
        }
    }

    private static void indexOfPlay() {
        State state = sheet(1, "xxxxx");
        for (int n = 1; n <= 5; n++) {
            int many = n;
            EDGE.due("the last " + n, state.make().play(0, 1, 5 - n, n), 0);
            EDGE.due("the first " + n, state.make().play(0, 1, 0, n), 0);
            EDGE.refused("one beyond the last " + n, state, x -> x.play(0, 1, 6 - many, many), ModalKeys.INDEX);
            EDGE.refused("one ahead of the first " + n, state, x -> x.play(0, 1, -1, many), ModalKeys.INDEX);
        }
        EDGE.refused("six of five", state, x -> x.play(0, 1, 0, 6), ModalKeys.INDEX);
        for (int i : new int[] {5, 6, 24, 25, MAX, MAX - 23, MIN, MIN + 24, -24}) {
            EDGE.refused("i " + i, state, x -> x.play(0, 1, i, 1), ModalKeys.INDEX);
            EDGE.refused("i " + i + ", n 24", state, x -> x.play(0, 1, i, 24), ModalKeys.INDEX);
        }
        State full = sheet(0, "x".repeat(24));
        EDGE.due("item 23 of 24", full.make().play(0, 0, 23, 1), 0);
        EDGE.refused("item 24 of 24", full, x -> x.play(0, 0, 24, 1), ModalKeys.INDEX);
        EDGE.refused("24 from 1 on", full, x -> x.play(0, 0, 1, 24), ModalKeys.INDEX);
    }

    private static void oneToTwentyFourAreFilmed() {
        for (int lane = 0; lane < 4; lane++) {
            for (int n : new int[] {1, 2, 23, 24}) {
                ModalKeys x = Hand.on(SIXTY);
                x.sheet(3, lane, 24);
                EDGE.due("lane " + lane + ": film of " + n, x.film(60 - n, n, 3, lane, 24 - n), n);
                EDGE.due("lane " + lane + ": L", x.count(0), 60);
                EDGE.due("lane " + lane + ": " + n + " came", items(x, 3, lane), "?".repeat(24 - n) + SIXTY.substring(60 - n));
            }
        }
        for (int n : new int[] {0, 25, -1, 26, 256 + 1, MIN, MAX}) {
            EDGE.refusedEverywhere("film(0, " + n + ", 1, 0, 0)", x -> x.film(0, n, 1, 0, 0), ModalKeys.BAD);
            EDGE.refused("film(0, " + n + ") of sixty", longFilm(), x -> x.film(0, n, 0, 2, 0), ModalKeys.BAD);
        }
        for (int wrong : NO_FOUR) {
            EDGE.refused("sheet " + wrong, longFilm(), x -> x.film(0, 1, wrong, 2, 0), ModalKeys.BAD);
            EDGE.refused("lane " + wrong, longFilm(), x -> x.film(0, 1, 0, wrong, 0), ModalKeys.BAD);
        }
        ModalKeys edges = Hand.on(" ~");
        edges.sheet(0, 0, 2);
        EDGE.due("of 32 and 126", edges.film(0, 2, 0, 0, 0), 2);
        EDGE.due("they came", items(edges, 0, 0), " ~");
    }

    private static State longFilm() {
        return new State("sixty and a row of 24", () -> {
            ModalKeys x = Hand.on(SIXTY);
            Hand.write(x, 0, 2, "-".repeat(24));
            return x;
        });
    }

    private static void notSoManyThere() {
        for (String line : new String[] {"", "a", "abc", SIXTY}) {
            State state = new State("\"" + line + "\" and a row of 24", () -> {
                ModalKeys x = Hand.on(line);
                Hand.write(x, 0, 2, "-".repeat(24));
                return x;
            });
            int length = line.length();
            for (int n : new int[] {1, 2, 3, 24}) {
                EDGE.refused("film(L - n + 1, " + n + ")", state, x -> x.film(length - n + 1, n, 0, 2, 0), ModalKeys.BAD);
                EDGE.refused("film(-1, " + n + ")", state, x -> x.film(-1, n, 0, 2, 0), ModalKeys.BAD);
                EDGE.refused("film(MAX, " + n + ")", state, x -> x.film(MAX, n, 0, 2, 0), ModalKeys.BAD);
                EDGE.refused("film(MIN, " + n + ")", state, x -> x.film(MIN, n, 0, 2, 0), ModalKeys.BAD);
                if (n <= length) {
                    EDGE.due(state.name + ": film(L - n, " + n + ")", state.make().film(length - n, n, 0, 2, 0), n);
                    EDGE.due(state.name + ": film(0, " + n + ")", state.make().film(0, n, 0, 2, 0), n);
                }
            }
        }
        EDGE.refusedEverywhere("film(37, 24, 1, 0, 0)", x -> x.film(37, 24, 1, 0, 0), ModalKeys.BAD);
        EDGE.refusedEverywhere("film(60, 1, 1, 0, 0)", x -> x.film(60, 1, 1, 0, 0), ModalKeys.BAD);
    }

    private static void orderOfFilm() {
        EDGE.refused("BAD (L is 0), NULL", State.fresh(), x -> x.film(0, 1, 0, 0, 0), ModalKeys.BAD);
        EDGE.refusedWithSheets("BAD (n), NULL", x -> x.film(0, 0, 0, 0, 0), ModalKeys.BAD);
        EDGE.refusedWithSheets("BAD (place), NULL", x -> x.film(-1, 1, 0, 0, 0), ModalKeys.BAD);
        EDGE.refusedWithSheets("BAD (not so many), CAST", x -> x.film(50, 24, 3, 0, 0), ModalKeys.BAD);
        EDGE.refusedWithSheets("BAD (not so many), INDEX", x -> x.film(50, 24, 3, 3, 9), ModalKeys.BAD);
        EDGE.refusedWithSheets("BAD (lane), INDEX", x -> x.film(0, 1, 3, 4, 9), ModalKeys.BAD);
        EDGE.refusedWithSheets("NULL", x -> x.film(0, 1, 0, 0, 0), ModalKeys.NULL);
        EDGE.refusedWithSheets("NULL, INDEX", x -> x.film(0, 1, 0, 0, -1), ModalKeys.NULL);
        EDGE.refusedWithSheets("CAST", x -> x.film(0, 1, 3, 0, 0), ModalKeys.CAST);
        EDGE.refusedWithSheets("CAST, INDEX", x -> x.film(0, 1, 3, 0, 5), ModalKeys.CAST);
        EDGE.refusedWithSheets("CAST of a row of none, INDEX", x -> x.film(0, 1, 2, 3, 0), ModalKeys.CAST);
        EDGE.refusedWithSheets("INDEX of a row of none", x -> x.film(0, 1, 2, 1, 0), ModalKeys.INDEX);
        for (int i : new int[] {-1, 5, 6, 24, MAX, MAX - 1, MIN}) {
            EDGE.refusedWithSheets("INDEX " + i, x -> x.film(0, 1, 3, 3, i), ModalKeys.INDEX);
        }
        EDGE.refusedWithSheets("INDEX 4 for two", x -> x.film(0, 2, 3, 3, 4), ModalKeys.INDEX);
        EDGE.refusedWithSheets("INDEX -1 for two", x -> x.film(0, 2, 3, 3, -1), ModalKeys.INDEX);
        EDGE.due("4 for one", State.rich("").make().film(0, 1, 3, 3, 4), 1);
        EDGE.due("3 for two", State.rich("").make().film(0, 2, 3, 3, 3), 2);
        EDGE.due("0 for five", State.rich("").make().film(0, 5, 3, 3, 0), 5);
        EDGE.refusedWithSheets("0 for six", x -> x.film(0, 6, 3, 3, 0), ModalKeys.INDEX);
    }

    private static void noneToTwentyFourItems() {
        for (int sheet = 0; sheet < 4; sheet++) {
            int s = sheet;
            EDGE.refused("drop(" + s + ")", State.fresh(), x -> x.drop(s), ModalKeys.NULL);
            for (int lane = 0; lane < 4; lane++) {
                for (int n : new int[] {0, 1, 23, 24}) {
                    ModalKeys x = new ModalKeys();
                    EDGE.due("sheet(" + s + ", " + lane + ", " + n + ")", x.sheet(s, lane, n), n);
                    EDGE.due("its item n", x.item(s, lane, n, 'q'), ModalKeys.INDEX);
                    if (n > 0) {
                        EDGE.due("its item n - 1", x.item(s, lane, n - 1, 'q'), 1);
                    }
                    EDGE.due("its items", x.drop(s), n);
                }
            }
        }
        for (int wrong : NO_FOUR) {
            EDGE.refusedEverywhere("sheet(" + wrong + ", 0, 1)", x -> x.sheet(wrong, 0, 1), ModalKeys.BAD);
            EDGE.refusedEverywhere("sheet(1, " + wrong + ", 1)", x -> x.sheet(1, wrong, 1), ModalKeys.BAD);
        }
    }

    private static void aboveTwentyFour() {
        for (int n : new int[] {25, 26, 60, 256, MAX}) {
            EDGE.refusedEverywhere("sheet(0, 0, " + n + ")", x -> x.sheet(0, 0, n), ModalKeys.BAD);
            EDGE.refusedEverywhere("sheet(1, 0, " + n + ")", x -> x.sheet(1, 0, n), ModalKeys.BAD);
            EDGE.refusedEverywhere("sheet(3, 1, " + n + ")", x -> x.sheet(3, 1, n), ModalKeys.BAD);
        }
        EDGE.due("n 24", State.rich("").make().sheet(1, 0, 24), 24);
        EDGE.due("n 23", State.rich("").make().sheet(1, 0, 23), 23);
    }

    private static void belowNone() {
        for (int n : new int[] {-1, -2, -24, -25, MIN, MIN + 24}) {
            EDGE.refusedEverywhere("sheet(0, 0, " + n + ")", x -> x.sheet(0, 0, n), ModalKeys.SIZE);
            EDGE.refusedEverywhere("sheet(1, 0, " + n + ")", x -> x.sheet(1, 0, n), ModalKeys.SIZE);
            EDGE.refusedEverywhere("sheet(3, 1, " + n + ")", x -> x.sheet(3, 1, n), ModalKeys.SIZE);
            EDGE.refusedEverywhere("BAD (sheet), SIZE", x -> x.sheet(4, 0, n), ModalKeys.BAD);
            EDGE.refusedEverywhere("BAD (lane), SIZE", x -> x.sheet(1, -1, n), ModalKeys.BAD);
        }
        EDGE.due("n 0", State.rich("").make().sheet(1, 0, 0), 0);
        EDGE.due("n 1", State.rich("").make().sheet(1, 0, 1), 1);
    }

    private static void newRows() {
        ModalKeys x = written(1, "abcdef");
        EDGE.due("a new row of the same length", x.sheet(0, 1, 6), 6);
        EDGE.due("no item of the old one", items(x, 0, 1), "??????");
        Hand.write(x, 0, 1, "abcdef");
        EDGE.due("a shorter one", x.sheet(0, 1, 2), 2);
        EDGE.due("its items", items(x, 0, 1), "??");
        EDGE.due("a longer one", x.sheet(0, 1, 7), 7);
        EDGE.due("its items, too", items(x, 0, 1), "???????");
        EDGE.due("of another lane", x.sheet(0, 3, 2), 2);
        EDGE.due("no row of the old one", x.item(0, 1, 0, 1), ModalKeys.CAST);
        EDGE.due("but of the new one", x.item(0, 3, 1, 'q'), 1);
        EDGE.due("the others stay nothing", x.drop(1), ModalKeys.NULL);
    }

    private static void howManyItHad() {
        for (int lane = 0; lane < 4; lane++) {
            for (int n : new int[] {0, 1, 23, 24}) {
                ModalKeys x = new ModalKeys();
                x.sheet(2, lane, n);
                EDGE.due("drop of " + n, x.drop(2), n);
                EDGE.due("drop once more", x.drop(2), ModalKeys.NULL);
                EDGE.due("its lane", x.item(2, lane, 0, 0), ModalKeys.NULL);
            }
        }
        ModalKeys x = State.rich("").make();
        EDGE.due("one SHEET", x.drop(1), 24);
        EDGE.due("the next", x.drop(2), 0);
        EDGE.due("the last", x.drop(3), 5);
    }

    private static void nothingToDrop() {
        for (int wrong : NO_FOUR) {
            EDGE.refusedEverywhere("drop(" + wrong + ")", x -> x.drop(wrong), ModalKeys.BAD);
        }
        EDGE.refusedEverywhere("drop(0)", x -> x.drop(0), ModalKeys.NULL);
        EDGE.due("a row of none is not nothing", State.rich("").make().drop(2), 0);
    }

    private static void itemsOfARow() {
        for (int lane = 0; lane < 4; lane++) {
            int l = lane;
            for (int n : new int[] {1, 2, 24}) {
                State state = sheet(l, "-".repeat(n));
                EDGE.refused("item -1 of " + n, state, x -> x.item(0, l, -1, 'q'), ModalKeys.INDEX);
                EDGE.refused("item " + n + " of " + n, state, x -> x.item(0, l, n, 'q'), ModalKeys.INDEX);
                ModalKeys first = state.make();
                EDGE.due("item 0 of " + n, first.item(0, l, 0, 'q'), 1);
                EDGE.due("it alone", items(first, 0, l), "q" + "-".repeat(n - 1));
                ModalKeys last = state.make();
                EDGE.due("item " + (n - 1) + " of " + n, last.item(0, l, n - 1, 'q'), 1);
                EDGE.due("that alone", items(last, 0, l), "-".repeat(n - 1) + "q");
            }
        }
        for (int i : new int[] {-1, 5, 6, 24, 25, MIN, MAX}) {
            EDGE.refusedWithSheets("item " + i + " of five", x -> x.item(3, 3, i, 'q'), ModalKeys.INDEX);
        }
        EDGE.refusedWithSheets("item 0 of none", x -> x.item(2, 1, 0, 'q'), ModalKeys.INDEX);
    }

    /** What a lane keeps of a value, as Java's casts to byte, short, int have it. */
    private static void lowestBits() {
        int[] bits = {8, 16, 32, 64};
        for (int lane = 0; lane < 4; lane++) {
            for (int low : new int[] {0, 31, 32, 34, 'x', 125, 126, 127}) {
                boolean key = low >= 32 && low <= 126;
                keeps(lane, low, key);
                for (int shift = 7; shift < 64; shift++) {
                    keeps(lane, low + (1L << shift), key && shift >= bits[lane]);
                    keeps(lane, low - (1L << shift), key && shift >= bits[lane]);
                }
            }
        }
        keeps(0, 255, false);
        keeps(0, 256 + 32, true);
        keeps(0, -256 + 126, true);
        keeps(0, Long.MIN_VALUE + 'x', true);
        keeps(0, Long.MAX_VALUE, false);
        keeps(1, 65535, false);
        keeps(1, 65536 + 32, true);
        keeps(2, (1L << 32) + 32, true);
        keeps(2, (1L << 31) + 32, false);
        keeps(3, (1L << 32) + 32, false);
        keeps(3, Long.MIN_VALUE + 'x', false);
        keeps(3, Long.MAX_VALUE, false);
    }

    private static void keeps(int lane, long v, boolean key) {
        ModalKeys x = Hand.after("", "i");
        x.sheet(0, lane, 1);
        EDGE.due("lane " + lane + ": item " + v, x.item(0, lane, 0, v), 1);
        EDGE.due("lane " + lane + ": play of " + v, x.play(0, lane, 0, 1), key ? 0 : ModalKeys.NOT);
        if (key) {
            EDGE.due("lane " + lane + ": the lowest bits of " + v, x.letter(0), v & 127);
        }
    }

    private static void orderOfItem() {
        for (int wrong : NO_FOUR) {
            EDGE.refusedEverywhere("BAD (sheet)", x -> x.item(wrong, 0, 0, 'q'), ModalKeys.BAD);
            EDGE.refusedEverywhere("BAD (lane), NULL", x -> x.item(0, wrong, 0, 'q'), ModalKeys.BAD);
            EDGE.refusedWithSheets("BAD (lane), INDEX", x -> x.item(3, wrong, 5, 'q'), ModalKeys.BAD);
        }
        EDGE.refusedEverywhere("NULL", x -> x.item(0, 0, 0, 'q'), ModalKeys.NULL);
        EDGE.refusedEverywhere("NULL, INDEX", x -> x.item(0, 3, -1, 'q'), ModalKeys.NULL);
        for (int lane = 0; lane < 3; lane++) {
            int l = lane;
            EDGE.refusedWithSheets("CAST", x -> x.item(3, l, 0, 'q'), ModalKeys.CAST);
            EDGE.refusedWithSheets("CAST, INDEX", x -> x.item(3, l, 5, 'q'), ModalKeys.CAST);
        }
        EDGE.refusedWithSheets("CAST of a row of none, INDEX", x -> x.item(2, 0, 0, 'q'), ModalKeys.CAST);
        EDGE.refusedWithSheets("INDEX", x -> x.item(3, 3, 5, 'q'), ModalKeys.INDEX);
        EDGE.due("none of them", State.rich("").make().item(3, 3, 4, 'q'), 1);
    }

    private static State twoRows(int lane) {
        return new State("two rows of lane " + lane, () -> {
            ModalKeys x = new ModalKeys();
            Hand.write(x, 0, lane, "abcde");
            Hand.write(x, 1, lane, "vwxyz-+");
            return x;
        });
    }

    private static void copied() {
        for (int lane = 0; lane < 4; lane++) {
            copied(lane, 0, 0, 5, "abcde-+");
            copied(lane, 0, 2, 5, "vwabcde");
            copied(lane, 4, 6, 1, "vwxyz-e");
            copied(lane, 0, 0, 1, "awxyz-+");
            copied(lane, 1, 3, 2, "vwxbc-+");
            copied(lane, 0, 0, 0, "vwxyz-+");
            copied(lane, 5, 7, 0, "vwxyz-+");
            copied(lane, 5, 0, 0, "vwxyz-+");
            copied(lane, 0, 7, 0, "vwxyz-+");
        }
        ModalKeys x = new ModalKeys();
        Hand.write(x, 2, 3, SIXTY.substring(0, 24));
        x.sheet(3, 3, 24);
        EDGE.due("24 items", x.copy(2, 0, 3, 0, 24), 24);
        EDGE.due("all came", items(x, 3, 3), SIXTY.substring(0, 24));
        ModalKeys none = State.rich("").make();
        EDGE.due("none of none", none.copy(2, 0, 2, 0, 0), 0);
        EDGE.due("one of none", none.copy(2, 0, 2, 0, 1), ModalKeys.INDEX);
        ModalKeys high = new ModalKeys();
        high.sheet(0, 3, 1);
        high.sheet(1, 3, 1);
        high.item(0, 3, 0, 'x' + (1L << 32));
        high.copy(0, 0, 1, 0, 1);
        EDGE.due("all bits of it", high.play(1, 3, 0, 1), ModalKeys.NOT);
    }

    private static void copied(int lane, int i, int j, int n, String due) {
        ModalKeys x = twoRows(lane).make();
        String call = "lane " + lane + ": copy(0, " + i + ", 1, " + j + ", " + n + ")";
        EDGE.due(call, x.copy(0, i, 1, j, n), n);
        EDGE.due(call + ": where they came", items(x, 1, lane), due);
        EDGE.due(call + ": where they are from", items(x, 0, lane), "abcde");
    }

    private static void takenAhead() {
        for (int lane = 0; lane < 4; lane++) {
            for (int i = 0; i <= 7; i++) {
                for (int j = 0; j <= 7; j++) {
                    for (int n = 0; n <= 7 - Math.max(i, j); n++) {
                        within(lane, i, j, n);
                    }
                }
            }
        }
    }

    private static void within(int lane, int i, int j, int n) {
        ModalKeys x = twoRows(lane).make();
        String row = "vwxyz-+";
        String call = "lane " + lane + ": copy(1, " + i + ", 1, " + j + ", " + n + ")";
        EDGE.due(call, x.copy(1, i, 1, j, n), n);
        EDGE.due(call + ": the row", items(x, 1, lane), row.substring(0, j) + row.substring(i, i + n) + row.substring(j + n));
    }

    private static void orderOfCopy() {
        for (int wrong : NO_FOUR) {
            EDGE.refusedEverywhere("BAD (from)", x -> x.copy(wrong, 0, 1, 0, 1), ModalKeys.BAD);
            EDGE.refusedEverywhere("BAD (to)", x -> x.copy(1, 0, wrong, 0, 1), ModalKeys.BAD);
            EDGE.refusedEverywhere("BAD (from), NULL (to)", x -> x.copy(wrong, 0, 0, 0, 1), ModalKeys.BAD);
            EDGE.refusedEverywhere("NULL (from), BAD (to)", x -> x.copy(0, 0, wrong, 0, 1), ModalKeys.BAD);
            EDGE.refusedEverywhere("BAD, INDEX", x -> x.copy(wrong, -1, 1, 99, -1), ModalKeys.BAD);
        }
        EDGE.refusedEverywhere("NULL (both)", x -> x.copy(0, 0, 0, 0, 0), ModalKeys.NULL);
        EDGE.refusedWithSheets("NULL (from)", x -> x.copy(0, 0, 1, 0, 1), ModalKeys.NULL);
        EDGE.refusedWithSheets("NULL (to)", x -> x.copy(1, 0, 0, 0, 1), ModalKeys.NULL);
        EDGE.refusedWithSheets("NULL (from), INDEX", x -> x.copy(0, -1, 1, 24, 1), ModalKeys.NULL);
        EDGE.refusedWithSheets("NULL (to), INDEX", x -> x.copy(1, 24, 0, 0, -1), ModalKeys.NULL);
        EDGE.refusedWithSheets("CAST", x -> x.copy(1, 0, 3, 0, 1), ModalKeys.CAST);
        EDGE.refusedWithSheets("CAST the other way", x -> x.copy(3, 0, 1, 0, 1), ModalKeys.CAST);
        EDGE.refusedWithSheets("CAST of none", x -> x.copy(1, 0, 3, 0, 0), ModalKeys.CAST);
        EDGE.refusedWithSheets("CAST, INDEX", x -> x.copy(1, 24, 3, 0, 1), ModalKeys.CAST);
        EDGE.refusedWithSheets("CAST, INDEX (n)", x -> x.copy(1, 0, 3, 0, -1), ModalKeys.CAST);
        EDGE.refusedWithSheets("CAST of a row of none, INDEX", x -> x.copy(2, 0, 1, 0, 1), ModalKeys.CAST);
    }

    private static void indexOfCopy() {
        for (int lane = 0; lane < 4; lane++) {
            State state = twoRows(lane);
            int[][] beyond = {
                {-1, 0, 1}, {0, -1, 1}, {5, 0, 1}, {0, 7, 1}, {0, 0, 6}, {1, 0, 5}, {0, 3, 5}, {6, 0, 0}, {0, 8, 0}, {-1, 0, 0},
                {0, -1, 0}, {0, 0, -1}, {0, 0, MIN}, {0, 0, MAX}, {MAX, 0, 1}, {0, MAX, 1}, {MIN, 0, 1}, {0, MIN, 1},
                {MAX, MAX, MAX}, {MIN, MIN, MIN}, {5, 7, -1}, {-1, -1, 2}, {1, 1, MAX}};
            for (int[] a : beyond) {
                String call = "copy(0, " + a[0] + ", 1, " + a[1] + ", " + a[2] + ")";
                EDGE.refused(call, state, x -> x.copy(0, a[0], 1, a[1], a[2]), ModalKeys.INDEX);
            }
            EDGE.refused("within one row", state, x -> x.copy(1, 0, 1, 1, 7), ModalKeys.INDEX);
            EDGE.refused("within one row, to the left", state, x -> x.copy(1, 1, 1, 0, 7), ModalKeys.INDEX);
            EDGE.due("all of one row to its place", state.make().copy(1, 0, 1, 0, 7), 7);
        }
        EDGE.refusedWithSheets("25 of 24", x -> x.copy(1, 0, 1, 0, 25), ModalKeys.INDEX);
        EDGE.refusedWithSheets("24 to 1", x -> x.copy(1, 0, 1, 1, 24), ModalKeys.INDEX);
        EDGE.refusedWithSheets("one of none", x -> x.copy(2, 0, 2, 0, 1), ModalKeys.INDEX);
    }

    /** One call for each answer below 0 that these calls have, in each state. */
    private static void eachAnswerChangesNothing() {
        EDGE.refusedWithSheets("BAD", x -> x.sheet(3, 4, 2), ModalKeys.BAD);
        EDGE.refusedWithSheets("NOT", x -> x.play(3, 3, 1, 4), ModalKeys.NOT);
        EDGE.refusedWithSheets("NULL", x -> x.film(0, 1, 0, 3, 0), ModalKeys.NULL);
        EDGE.refusedWithSheets("CAST", x -> x.item(1, 3, 0, 'q'), ModalKeys.CAST);
        EDGE.refusedWithSheets("INDEX", x -> x.copy(1, 20, 1, 0, 5), ModalKeys.INDEX);
        EDGE.refusedWithSheets("SIZE", x -> x.sheet(1, 0, -1), ModalKeys.SIZE);
    }
}
