/** Promises 18 to 23: play, film, sheet, drop, item, copy. */
public final class SheetsTest {
    private static final Check CHECK = new Check("SheetsTest");
    private static final int MAX = Integer.MAX_VALUE;
    private static final int MIN = Integer.MIN_VALUE;

    public static void main(String[] args) {
        promise18();
        playCountsFailures();
        promise19();
        promise20();
        promise21();
        promise22();
        itemsAreCutToTheirLane();
        promise23();
        copyAsIfTakenAhead();
        CHECK.end();
    }

    private static void promise18() {
        for (int lane = 0; lane < 4; lane++) {
            ModalKeys x = Hand.on("one two");
            Hand.write(x, 3, lane, "zzdwiQ!");
            CHECK.due("18 play of lane " + lane, x.play(3, lane, 2, 5), 0);
            CHECK.due("18 it was struck", Hand.look(x), "Qtwo|0|one ");
            CHECK.due("18 of another lane", x.play(3, (lane + 1) % 4, 2, 5), ModalKeys.CAST);
            CHECK.due("18 CAST ahead of INDEX", x.play(3, (lane + 1) % 4, 9, 5), ModalKeys.CAST);
        }
        ModalKeys x = Hand.on("one two");
        Hand.write(x, 0, 1, "xxx");
        CHECK.due("18 sheet -1", x.play(-1, 1, 0, 1), ModalKeys.BAD);
        CHECK.due("18 sheet 4", x.play(4, 1, 0, 1), ModalKeys.BAD);
        CHECK.due("18 lane -1", x.play(0, -1, 0, 1), ModalKeys.BAD);
        CHECK.due("18 lane 4", x.play(0, 4, 0, 1), ModalKeys.BAD);
        CHECK.due("18 n 0", x.play(0, 1, 0, 0), ModalKeys.BAD);
        CHECK.due("18 n 25", x.play(0, 1, 0, 25), ModalKeys.BAD);
        CHECK.due("18 BAD ahead of NULL", x.play(1, 1, 0, 25), ModalKeys.BAD);
        CHECK.due("18 nothing", x.play(1, 1, 0, 1), ModalKeys.NULL);
        CHECK.due("18 too many", x.play(0, 1, 1, 3), ModalKeys.INDEX);
        CHECK.due("18 i 3", x.play(0, 1, 3, 1), ModalKeys.INDEX);
        CHECK.due("18 i -1", x.play(0, 1, -1, 1), ModalKeys.INDEX);
        CHECK.due("18 i far", x.play(0, 1, MAX, 24), ModalKeys.INDEX);
        CHECK.due("18 i far below", x.play(0, 1, MIN, 24), ModalKeys.INDEX);
        CHECK.due("18 nothing was struck", Hand.look(x), "one two|0|");
        CHECK.due("18 all of it", x.play(0, 1, 0, 3), 0);
        CHECK.due("18 was struck", Hand.lineOf(x), " two");
    }

    private static void playCountsFailures() {
        ModalKeys x = Hand.on("abcd");
        Hand.write(x, 0, 3, "xqx3qx");
        CHECK.due("18 two fail", x.play(0, 3, 0, 6), 2);
        CHECK.due("18 the others don't", Hand.lineOf(x), "d");
        long[] noKeys = {31, 127, 0, -1, 120L + (1L << 32), Long.MIN_VALUE};
        for (long v : noKeys) {
            x.item(0, 3, 5, v);
            CHECK.due("18 item " + v, x.play(0, 3, 0, 6), ModalKeys.NOT);
            CHECK.due("18 nothing is struck then", Hand.lineOf(x), "d");
            CHECK.due("18 those ahead of it", x.play(0, 3, 4, 1), 1);
        }
        x.item(0, 3, 4, '9');
        CHECK.due("18 a number may be left", x.play(0, 3, 4, 1), 0);
        CHECK.due("18 begun", x.count(3), 1);
        ModalKeys full = Hand.after("a", "yl58p");
        Hand.write(full, 1, 0, "Aabc!q");
        CHECK.due("18 FULL and FAILED", full.play(1, 0, 0, 6), 3);
        CHECK.due("18 sixty", full.count(0), 60);
        CHECK.due("18 FULL ones are keys of the change", full.count(8), 5);
        CHECK.due("18 24 items", playOf24(), 0);
        ModalKeys edges = Hand.on("aB");
        Hand.write(edges, 1, 0, " ~");
        CHECK.due("18 the first and the last key", edges.play(1, 0, 0, 2), 1);
        CHECK.due("18 were struck", Hand.lineOf(edges), "AB");
    }

    private static int playOf24() {
        ModalKeys x = Hand.on("a");
        Hand.write(x, 2, 1, "llllllllllllllllllllllll");
        return x.play(2, 1, 0, 24);
    }

    private static void promise19() {
        for (int lane = 0; lane < 4; lane++) {
            ModalKeys x = Hand.on("a~ xx dw");
            x.sheet(2, lane, 5);
            CHECK.due("19 film to lane " + lane, x.film(4, 4, 2, lane, 1), 4);
            CHECK.due("19 item 0 stays", x.play(2, lane, 0, 1), ModalKeys.NOT);
            CHECK.due("19 the letters came", x.play(2, lane, 3, 2), 0);
            CHECK.due("19 dw was struck", Hand.look(x), "~ xx dw|0|a");
            CHECK.due("19 another lane", x.film(0, 1, 2, (lane + 1) % 4, 0), ModalKeys.CAST);
        }
        CHECK.due("19 each letter at its place", filmed(1, 3, 2), "..bcd..");
        CHECK.due("19 all of a row", filmed(0, 7, 0), "abcdefg");
        ModalKeys x = Hand.on("abcdef");
        x.sheet(0, 0, 3);
        CHECK.due("19 n 0", x.film(0, 0, 0, 0, 0), ModalKeys.BAD);
        CHECK.due("19 n 25", x.film(0, 25, 0, 0, 0), ModalKeys.BAD);
        CHECK.due("19 n -1", x.film(0, -1, 0, 0, 0), ModalKeys.BAD);
        CHECK.due("19 place -1", x.film(-1, 1, 0, 0, 0), ModalKeys.BAD);
        CHECK.due("19 place 6", x.film(6, 1, 0, 0, 0), ModalKeys.BAD);
        CHECK.due("19 not so many", x.film(4, 3, 0, 0, 0), ModalKeys.BAD);
        CHECK.due("19 place far", x.film(MAX, 3, 0, 0, 0), ModalKeys.BAD);
        CHECK.due("19 sheet 4", x.film(0, 1, 4, 0, 0), ModalKeys.BAD);
        CHECK.due("19 sheet -1", x.film(0, 1, -1, 0, 0), ModalKeys.BAD);
        CHECK.due("19 lane 4", x.film(0, 1, 0, 4, 0), ModalKeys.BAD);
        CHECK.due("19 lane -1", x.film(0, 1, 0, -1, 0), ModalKeys.BAD);
        CHECK.due("19 BAD ahead of NULL", x.film(4, 3, 1, 0, 0), ModalKeys.BAD);
        CHECK.due("19 nothing", x.film(0, 1, 1, 0, 0), ModalKeys.NULL);
        CHECK.due("19 i -1", x.film(0, 1, 0, 0, -1), ModalKeys.INDEX);
        CHECK.due("19 i 3", x.film(0, 1, 0, 0, 3), ModalKeys.INDEX);
        CHECK.due("19 i far", x.film(0, 2, 0, 0, MAX), ModalKeys.INDEX);
        CHECK.due("19 one too many", x.film(0, 3, 0, 0, 1), ModalKeys.INDEX);
        CHECK.due("19 none of them came", x.play(0, 0, 1, 1), ModalKeys.NOT);
        CHECK.due("19 just so many", x.film(3, 3, 0, 0, 0), 3);
        CHECK.due("19 the line stays", Hand.look(x), "abcdef|0|");
    }

    /** A row of dots after a film to it, told by inserting it. */
    private static String filmed(int place, int n, int i) {
        ModalKeys x = Hand.on("abcdefg");
        Hand.write(x, 1, 2, ".......");
        x.film(place, n, 1, 2, i);
        x.line();
        x.key('i');
        x.play(1, 2, 0, 7);
        return Hand.lineOf(x);
    }

    private static void promise20() {
        ModalKeys x = new ModalKeys();
        CHECK.due("20 sheet -1", x.sheet(-1, 0, 1), ModalKeys.BAD);
        CHECK.due("20 sheet 4", x.sheet(4, 0, 1), ModalKeys.BAD);
        CHECK.due("20 lane -1", x.sheet(0, -1, 1), ModalKeys.BAD);
        CHECK.due("20 lane 4", x.sheet(0, 4, 1), ModalKeys.BAD);
        CHECK.due("20 n 25", x.sheet(0, 0, 25), ModalKeys.BAD);
        CHECK.due("20 n -1", x.sheet(0, 0, -1), ModalKeys.SIZE);
        CHECK.due("20 n far below", x.sheet(0, 0, MIN), ModalKeys.SIZE);
        CHECK.due("20 BAD ahead of SIZE", x.sheet(0, 4, -1), ModalKeys.BAD);
        CHECK.due("20 refused: nothing", x.drop(0), ModalKeys.NULL);
        CHECK.due("20 n 24", x.sheet(0, 0, 24), 24);
        CHECK.due("20 n 0", x.sheet(1, 3, 0), 0);
        CHECK.due("20 a row of none is a row", x.item(1, 3, 0, 1), ModalKeys.INDEX);
        Hand.write(x, 2, 1, "xyz");
        CHECK.due("20 refused: as it was", x.sheet(2, 0, -1), ModalKeys.SIZE);
        CHECK.due("20 still a row of 1", x.play(2, 1, 0, 3), 2);
        CHECK.due("20 a new row", x.sheet(2, 1, 3), 3);
        for (int i = 0; i < 3; i++) {
            CHECK.due("20 of zeros at " + i, x.play(2, 1, i, 1), ModalKeys.NOT);
        }
    }

    private static void promise21() {
        ModalKeys x = new ModalKeys();
        CHECK.due("21 drop(-1)", x.drop(-1), ModalKeys.BAD);
        CHECK.due("21 drop(4)", x.drop(4), ModalKeys.BAD);
        CHECK.due("21 nothing", x.drop(3), ModalKeys.NULL);
        x.sheet(3, 2, 7);
        x.sheet(0, 0, 0);
        CHECK.due("21 seven", x.drop(3), 7);
        CHECK.due("21 nothing then", x.drop(3), ModalKeys.NULL);
        CHECK.due("21 play of nothing", x.play(3, 2, 0, 1), ModalKeys.NULL);
        CHECK.due("21 a row of none", x.drop(0), 0);
        CHECK.due("21 nothing then, too", x.drop(0), ModalKeys.NULL);
    }

    private static void promise22() {
        ModalKeys x = Hand.on("abcd");
        CHECK.due("22 sheet -1", x.item(-1, 0, 0, 0), ModalKeys.BAD);
        CHECK.due("22 sheet 4", x.item(4, 0, 0, 0), ModalKeys.BAD);
        CHECK.due("22 lane -1", x.item(0, -1, 0, 0), ModalKeys.BAD);
        CHECK.due("22 lane 4", x.item(0, 4, 0, 0), ModalKeys.BAD);
        CHECK.due("22 nothing", x.item(0, 0, 0, 0), ModalKeys.NULL);
        x.sheet(0, 2, 3);
        CHECK.due("22 another lane", x.item(0, 1, 0, 0), ModalKeys.CAST);
        CHECK.due("22 CAST ahead of INDEX", x.item(0, 1, 3, 0), ModalKeys.CAST);
        CHECK.due("22 i 3", x.item(0, 2, 3, 0), ModalKeys.INDEX);
        CHECK.due("22 i -1", x.item(0, 2, -1, 0), ModalKeys.INDEX);
        CHECK.due("22 i far", x.item(0, 2, MAX, 0), ModalKeys.INDEX);
        CHECK.due("22 i 2", x.item(0, 2, 2, 'x'), 1);
        CHECK.due("22 it is there", x.play(0, 2, 2, 1), 0);
        CHECK.due("22 it was struck", Hand.lineOf(x), "bcd");
        CHECK.due("22 the others are as they were", x.play(0, 2, 1, 1), ModalKeys.NOT);
    }

    private static void itemsAreCutToTheirLane() {
        long[] high = {1L << 8, 1L << 16, 1L << 32, -1L << 32};
        boolean[][] isKey = {
            {true, true, true, true}, {false, true, true, true}, {false, false, true, true}, {false, false, false, false}};
        for (int lane = 0; lane < 4; lane++) {
            for (int k = 0; k < high.length; k++) {
                ModalKeys x = Hand.on("ab");
                x.sheet(0, lane, 1);
                CHECK.due("22 lane " + lane, x.item(0, lane, 0, 'x' + high[k]), 1);
                CHECK.due("22 lane " + lane + " with " + high[k], x.play(0, lane, 0, 1), isKey[lane][k] ? 0 : ModalKeys.NOT);
            }
        }
    }

    private static void promise23() {
        ModalKeys x = Hand.on("abcdef");
        CHECK.due("23 from -1", x.copy(-1, 0, 0, 0, 0), ModalKeys.BAD);
        CHECK.due("23 from 4", x.copy(4, 0, 0, 0, 0), ModalKeys.BAD);
        CHECK.due("23 to -1", x.copy(0, 0, -1, 0, 0), ModalKeys.BAD);
        CHECK.due("23 to 4", x.copy(0, 0, 4, 0, 0), ModalKeys.BAD);
        CHECK.due("23 both nothing", x.copy(0, 0, 1, 0, 0), ModalKeys.NULL);
        Hand.write(x, 0, 1, "hlx");
        CHECK.due("23 to nothing", x.copy(0, 0, 1, 0, 1), ModalKeys.NULL);
        CHECK.due("23 from nothing", x.copy(1, 0, 0, 0, 1), ModalKeys.NULL);
        CHECK.due("23 NULL ahead of INDEX", x.copy(1, 9, 0, 9, 1), ModalKeys.NULL);
        x.sheet(1, 2, 4);
        CHECK.due("23 unlike lanes", x.copy(0, 0, 1, 0, 1), ModalKeys.CAST);
        CHECK.due("23 CAST ahead of INDEX", x.copy(0, 9, 1, 0, 1), ModalKeys.CAST);
        x.sheet(1, 1, 4);
        CHECK.due("23 i -1", x.copy(0, -1, 1, 0, 1), ModalKeys.INDEX);
        CHECK.due("23 j -1", x.copy(0, 0, 1, -1, 1), ModalKeys.INDEX);
        CHECK.due("23 n -1", x.copy(0, 0, 1, 0, -1), ModalKeys.INDEX);
        CHECK.due("23 n far below", x.copy(0, 0, 1, 0, MIN), ModalKeys.INDEX);
        CHECK.due("23 n 4", x.copy(0, 0, 1, 0, 4), ModalKeys.INDEX);
        CHECK.due("23 n far", x.copy(0, 0, 1, 0, MAX), ModalKeys.INDEX);
        CHECK.due("23 i 1, n 3", x.copy(0, 1, 1, 0, 3), ModalKeys.INDEX);
        CHECK.due("23 j 2, n 3", x.copy(0, 0, 1, 2, 3), ModalKeys.INDEX);
        CHECK.due("23 i far", x.copy(0, MAX, 1, 0, 1), ModalKeys.INDEX);
        CHECK.due("23 none came", x.play(1, 1, 2, 1), ModalKeys.NOT);
        CHECK.due("23 n 0 at the end", x.copy(0, 3, 1, 4, 0), 0);
        CHECK.due("23 n 0 behind the end", x.copy(0, 4, 1, 4, 0), ModalKeys.INDEX);
        CHECK.due("23 two", x.copy(0, 1, 1, 2, 2), 2);
        CHECK.due("23 they came", x.play(1, 1, 2, 2), 0);
        CHECK.due("23 and were struck", Hand.lineOf(x), "acdef");
        CHECK.due("23 only they", x.play(1, 1, 1, 1), ModalKeys.NOT);
    }

    private static void copyAsIfTakenAhead() {
        for (int lane = 0; lane < 4; lane++) {
            CHECK.due("23 to the right, lane " + lane, moved(lane, 0, 2, 5), "ababcde");
            CHECK.due("23 to the left, lane " + lane, moved(lane, 2, 0, 5), "cdefgfg");
            CHECK.due("23 to its place, lane " + lane, moved(lane, 1, 1, 4), "abcdefg");
        }
    }

    /** A row of a .. g after a copy within it, told by inserting it. */
    private static String moved(int lane, int i, int j, int n) {
        ModalKeys x = new ModalKeys();
        Hand.write(x, 1, lane, "abcdefg");
        x.copy(1, i, 1, j, n);
        x.key('i');
        x.play(1, lane, 0, 7);
        return Hand.lineOf(x);
    }
}
