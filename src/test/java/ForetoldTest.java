/** Promises 10 to 15: leads, steps, farthest, once, goes, struck. */
public final class ForetoldTest {
    private static final Check CHECK = new Check("ForetoldTest");
    private static final String[] LINES = {
        "", "a", " ", "ab cd ef", "  a,,b  ", "one two  (three; four) five", "((x) y)   ", "a b c d e f g h",
        "aaaaaaaaaaaaaaaaaaaaaaaaaaaaaaaaaaaaaaaaaaaaaaaaaaaaaaaaaaaa",
        "a  bb ccc;; dddd (eee) ,,, ffff gg h iiiiiiiiiiiiiiiiii jjjj"};

    public static void main(String[] args) {
        promise10();
        promise11();
        promise12();
        promise13();
        promise14();
        promise15();
        nothingIsChanged();
        whileOneInserts();
        againstTryingAll();
        CHECK.end();
    }

    private static void promise10() {
        String line = "ab ;; c ";
        int[][] due = {
            {0, 0, 1, 2, 3, 4, 5, 6, 7},
            {1, 2, 3, 4, 5, 6, 7, 8, 8},
            {0, 0, 0, 0, 0, 0, 0, 0, 0},
            {7, 7, 7, 7, 7, 7, 7, 7, 7},
            {3, 3, 3, 6, 6, 6, 8, 8, 8},
            {0, 0, 0, 0, 3, 3, 3, 6, 6},
            {1, 4, 4, 4, 6, 6, 7, 7, 7}};
        ModalKeys x = Hand.on(line);
        for (int motion = 0; motion < 7; motion++) {
            for (int from = 0; from <= line.length(); from++) {
                CHECK.due("10 leads(" + motion + ", " + from + ")", x.leads(motion, from), due[motion][from]);
            }
        }
        CHECK.due("10 leads(-1, 0)", x.leads(-1, 0), ModalKeys.BAD);
        CHECK.due("10 leads(7, 0)", x.leads(7, 0), ModalKeys.BAD);
        CHECK.due("10 leads(0, -1)", x.leads(0, -1), ModalKeys.BAD);
        CHECK.due("10 leads(0, 9)", x.leads(0, 9), ModalKeys.BAD);
        for (int motion = 0; motion < 7; motion++) {
            CHECK.due("10 empty: leads(" + motion + ", 0)", new ModalKeys().leads(motion, 0), 0);
        }
        CHECK.due("10 empty: leads(0, 1)", new ModalKeys().leads(0, 1), ModalKeys.BAD);
    }

    private static void promise11() {
        ModalKeys x = Hand.on("one two three");
        CHECK.due("11 steps(0, -1)", x.steps(0, -1), 0);
        CHECK.due("11 steps(0, -2)", x.steps(0, -2), 0);
        CHECK.due("11 steps(0, 0)", x.steps(0, 0), ModalKeys.NONE);
        row(x, 2, "6");
        row(x, 3, "40");
        row(x, 4, "4");
        row(x, 5, "41");
        row(x, 6, "46");
        row(x, 7, "350");
        row(x, 12, "3");
        CHECK.due("11 steps(13, -1)", x.steps(13, -1), ModalKeys.BAD);
        CHECK.due("11 steps(-1, -1)", x.steps(-1, -1), ModalKeys.BAD);
        CHECK.due("11 steps(0, -3)", x.steps(0, -3), ModalKeys.BAD);
        CHECK.due("11 steps(4, far)", x.steps(4, Integer.MAX_VALUE), ModalKeys.NONE);
        x.price(4, 3);
        x.price(6, 9);
        CHECK.due("11 dearer: steps(4, -2)", x.steps(4, -2), 3);
        row(x, 4, "355");
        CHECK.due("11 dearer: steps(3, -2)", x.steps(3, -2), 3);
        row(x, 3, "111");
        Hand.strike(x, "$");
        CHECK.due("11 from the end: steps(8, 0)", x.steps(8, 0), 5);
        CHECK.due("11 empty: steps(0, -1)", new ModalKeys().steps(0, -1), 0);
        CHECK.due("11 empty: steps(1, -1)", new ModalKeys().steps(1, -1), ModalKeys.BAD);
    }

    private static void row(ModalKeys x, int place, String want) {
        StringBuilder b = new StringBuilder();
        for (int k = 0; x.steps(place, k) >= 0; k++) {
            b.append(x.steps(place, k));
        }
        CHECK.due("11 steps to " + place, b.toString(), want);
        CHECK.due("11 steps(" + place + ", -1)", x.steps(place, -1), want.length());
    }

    private static void promise12() {
        ModalKeys x = Hand.on("one two three");
        CHECK.due("12 farthest(0)", x.farthest(0), 3);
        CHECK.due("12 farthest(1)", x.farthest(1), 7);
        CHECK.due("12 farthest(2)", x.farthest(2), ModalKeys.BAD);
        CHECK.due("12 farthest(-1)", x.farthest(-1), ModalKeys.BAD);
        x.price(3, 9);
        x.price(0, 9);
        CHECK.due("12 dearer: farthest(0)", x.farthest(0), 5);
        CHECK.due("12 dearer: farthest(1)", x.farthest(1), 11);
        CHECK.due("12 empty: farthest(0)", new ModalKeys().farthest(0), 0);
        CHECK.due("12 empty: farthest(1)", new ModalKeys().farthest(1), 0);
        CHECK.due("12 of one: farthest(0)", Hand.on("a").farthest(0), 0);
    }

    private static void promise13() {
        ModalKeys x = Hand.after("ab cd", "l");
        CHECK.due("13 once(0)", x.once(0), 1 + 4 + 32);
        CHECK.due("13 once(1)", x.once(1), 0);
        CHECK.due("13 once(2)", x.once(2), 2);
        CHECK.due("13 once(3)", x.once(3), 16);
        CHECK.due("13 once(4)", x.once(4), 8 + 64);
        CHECK.due("13 once(5)", x.once(5), ModalKeys.BAD);
        CHECK.due("13 once(-1)", x.once(-1), ModalKeys.BAD);
        Hand.strike(x, "$");
        CHECK.due("13 as deeds, L less 1 at most", x.once(4), 2 + 8 + 16 + 64);
        CHECK.due("13 empty: once(0)", new ModalKeys().once(0), 127);
        CHECK.due("13 empty: once(1)", new ModalKeys().once(1), ModalKeys.BAD);
    }

    private static void promise14() {
        ModalKeys x = Hand.after("one two three", "5l");
        int[] once = {1, 1, 5, 8, 3, 1, 2};
        int[] twice = {2, 2, 5, 8, 8, 5, 8};
        for (int motion = 0; motion < 7; motion++) {
            CHECK.due("14 goes(" + motion + ", 1)", x.goes(motion, 1), once[motion]);
            CHECK.due("14 goes(" + motion + ", 2)", x.goes(motion, 2), twice[motion]);
        }
        CHECK.due("14 goes(1, 99)", x.goes(1, 99), 8);
        CHECK.due("14 goes(0, 99)", x.goes(0, 99), 5);
        CHECK.due("14 goes(0, 0)", x.goes(0, 0), ModalKeys.BAD);
        CHECK.due("14 goes(0, 100)", x.goes(0, 100), ModalKeys.BAD);
        CHECK.due("14 goes(-1, 1)", x.goes(-1, 1), ModalKeys.BAD);
        CHECK.due("14 goes(7, 1)", x.goes(7, 1), ModalKeys.BAD);
        for (int motion = 0; motion < 7; motion++) {
            CHECK.due("14 empty: goes(" + motion + ", 9)", new ModalKeys().goes(motion, 9), 0);
        }
    }

    private static void promise15() {
        ModalKeys x = Hand.on("ab");
        fraction(x, 0, 0, 1, 1);
        fraction(x, 1, 0, 0, 1);
        fraction(x, 0, 1, 3, 7);
        fraction(x, 1, 1, 4, 7);
        fraction(x, 0, 2, 3, 7);
        fraction(new ModalKeys(), 0, 4, 1, 1);
        CHECK.due("15 struck(2, 0, 0)", x.struck(2, 0, 0), ModalKeys.BAD);
        CHECK.due("15 struck(-1, 0, 0)", x.struck(-1, 0, 0), ModalKeys.BAD);
        CHECK.due("15 struck(0, -1, 0)", x.struck(0, -1, 0), ModalKeys.BAD);
        CHECK.due("15 struck(0, 5, 0)", x.struck(0, 5, 0), ModalKeys.BAD);
        CHECK.due("15 struck(0, 1, 2)", x.struck(0, 1, 2), ModalKeys.BAD);
        CHECK.due("15 struck(0, 1, -1)", x.struck(0, 1, -1), ModalKeys.BAD);
        x.price(2, 9);
        fraction(x, 0, 1, 3, 7);
    }

    private static void fraction(ModalKeys x, int place, int n, int above, int below) {
        CHECK.due("15 struck(" + place + ", " + n + ", 0)", x.struck(place, n, 0), above);
        CHECK.due("15 struck(" + place + ", " + n + ", 1)", x.struck(place, n, 1), below);
    }

    private static void nothingIsChanged() {
        ModalKeys x = Hand.after("one two three", "wx2d");
        x.leads(4, 3);
        x.steps(9, 0);
        x.farthest(1);
        x.once(3);
        x.goes(6, 3);
        x.struck(1, 4, 0);
        CHECK.due("10-15 change nothing", Hand.look(x), "one wo three|4|t");
        CHECK.due("10-15 leave the command", x.count(3), 1);
        Hand.strike(x, "l");
        CHECK.due("10-15 leave its number", Hand.look(x), "one  three|4|wo");
    }

    private static void whileOneInserts() {
        ModalKeys x = Hand.after("ab cd", "A");
        CHECK.due("the cursor is at L", x.count(1), 5);
        CHECK.due("11 from L less 1", x.steps(4, -1), 0);
        CHECK.due("12 from L less 1", x.farthest(1), 1);
        CHECK.due("13 from L less 1", x.once(3), 1 + 32);
        CHECK.due("14 from L less 1", x.goes(0, 1), 1);
        CHECK.due("14 from L less 1: l", x.goes(1, 1), 1);
        CHECK.due("15 from L less 1", x.struck(4, 0, 0), 1);
        CHECK.due("10 from L", x.leads(0, 5), 4);
    }

    /** Each place of each line, against rows of motions tried one by one. */
    private static void againstTryingAll() {
        int[][] prices = {{1, 1, 1, 1, 1, 1, 1}, {2, 3, 1, 9, 4, 1, 5}, {9, 8, 7, 6, 5, 4, 3}};
        for (String line : LINES) {
            for (int[] price : prices) {
                for (int start = 0; start < Math.max(1, line.length()); start += 7) {
                    compare(line, price, start);
                }
            }
        }
    }

    private static void compare(String line, int[] price, int start) {
        ModalKeys x = Hand.on(line);
        for (int motion = 0; motion < 7; motion++) {
            x.price(motion, price[motion]);
        }
        if (start > 0) {
            Hand.strike(x, start + "l");
        }
        Model model = new Model();
        model.tell(line);
        model.cursor = start;
        model.prices = price.clone();
        int places = Math.max(1, line.length());
        String[] rows = model.cheapestRows();
        int dearest = 0;
        for (int place = 0; place < places; place++) {
            String about = "\"" + line + "\" from " + start + " to " + place;
            CHECK.due(about + ": price", x.steps(place, -2), model.priceOf(rows[place]));
            CHECK.due(about + ": number", x.steps(place, -1), rows[place].length());
            int mid = rows[place].length() / 2;
            int want = rows[place].isEmpty() ? ModalKeys.NONE : rows[place].charAt(mid) - '0';
            CHECK.due(about + ": step " + mid, x.steps(place, mid), want);
            if (model.priceOf(rows[place]) > model.priceOf(rows[dearest])) {
                dearest = place;
            }
        }
        CHECK.due("\"" + line + "\" from " + start + ": farthest", x.farthest(1), dearest);
        CHECK.due("\"" + line + "\" from " + start + ": its price", x.farthest(0), model.priceOf(rows[dearest]));
        for (int n = 0; n <= 4; n++) {
            int[] ways = model.endsOfRows(n);
            for (int place = 0; place < places; place += 3) {
                int all = (int) Math.round(Math.pow(7, n));
                int common = Model.commonDivisor(ways[place], all);
                fraction(x, place, n, ways[place] / common, all / common);
            }
        }
    }
}
