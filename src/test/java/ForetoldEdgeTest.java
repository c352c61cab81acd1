/** Where what is foretold ends: the sentences that name a boundary, for promises 9 and 11 to 17 (10: MotionEdgeTest). */
public final class ForetoldEdgeTest {
    private static final Edge EDGE = new Edge("ForetoldEdgeTest");
    private static final int MAX = Integer.MAX_VALUE;
    private static final int MIN = Integer.MIN_VALUE;
    private static final String SIXTY = State.SIXTY;
    private static final String[] LINES = {"", "a", " ", "ab", "ab cd", " a;;b ", SIXTY, "a ".repeat(30)};

    public static void main(String[] args) {
        prices();
        steps();
        others();
        images();
        EDGE.end();
    }

    private static void prices() {
        EDGE.of("Promise 9", "PRICES of MOTIONS are 1 .. 9 (1 at first).", ForetoldEdgeTest::oneToNine);
        EDGE.of("Promise 9", "The PRICE of a MOTION becomes v: what it was.", ForetoldEdgeTest::whatItWas);
        EDGE.of("Promise 9", "BAD; NOT: it is so.", ForetoldEdgeTest::itIsSo);
    }

    private static void steps() {
        EDGE.of("Promise 11", "STEPS to a place (0 .. L less 1; 0 if L is 0):", ForetoldEdgeTest::placesOfSteps);
        EDGE.of("Promise 11", "STEPS: how many (k -1), their PRICE (k -2), the k-th (NONE: not so many).", ForetoldEdgeTest::kthStep);
        EDGE.of("Promise 11", "BAD: k below -2.", ForetoldEdgeTest::kBelow);
        EDGE.of("Promise 11", "of least PRICE together, by which it comes there; of several the first one (by numbers).",
            ForetoldEdgeTest::theFirstOfSeveral);
        EDGE.of("Promise 12", "FARTHEST: the PRICE (what 0), the first such place (1). BAD.", ForetoldEdgeTest::twoWhats);
        EDGE.of("Promise 12", "FARTHEST: the greatest PRICE of STEPS to any place.", ForetoldEdgeTest::greatestPrice);
    }

    private static void others() {
        EDGE.of("Promise 13", "AT ONCE (a set). BAD.", ForetoldEdgeTest::placesAtOnce);
        EDGE.of("Promise 13", "AT ONCE: MOTIONS (a set) by which it comes to a place.", ForetoldEdgeTest::motionsAtOnce);
        EDGE.of("Promise 14", "GOES by d with a MOTION n times (1 .. 99): how many LETTERS would go.", ForetoldEdgeTest::timesThatGo);
        EDGE.of("Promise 14", "GOES. BAD.", ForetoldEdgeTest::motionsThatGo);
        EDGE.of("Promise 15", "STRUCK: n (0 .. 4) MOTIONS by chance, all seven as likely each time:", ForetoldEdgeTest::timesStruck);
        EDGE.of("Promise 15", "STRUCK: above (what 0), below (1). BAD.", ForetoldEdgeTest::aboveAndBelow);
        EDGE.of("Promise 15", "how likely THE CURSOR is at a place then:", ForetoldEdgeTest::placesStruck);
        EDGE.of("Promise 15", "a fraction in lowest terms.", ForetoldEdgeTest::lowestTerms);
        EDGE.of("Promises 10 to 15", "(Nothing is changed;", ForetoldEdgeTest::nothingIsChanged);
        EDGE.of("Promises 11 to 15", "MOTIONS 0 .. 6, as deeds but for GOES;", ForetoldEdgeTest::asDeeds);
        EDGE.of("Promises 11 to 15", "from THE CURSOR, L less 1 at most.)", ForetoldEdgeTest::fromTheLast);
    }

    private static void images() {
        EDGE.of("Promise 16", "All but SHEETS, THE TAPE is kept as an IMAGE (a COMMAND that is not whole, too): 1.",
            ForetoldEdgeTest::allIsKept);
        EDGE.of("Promise 16", "All but SHEETS, THE TAPE", ForetoldEdgeTest::sheetsAndTapeAreNotKept);
        EDGE.of("Promise 17", "All is as it was then: 1.", ForetoldEdgeTest::asItWas);
        EDGE.of("Promise 17", "NONE: there is none.", ForetoldEdgeTest::noImage);
    }

    private static void oneToNine() {
        for (int motion = 0; motion < 7; motion++) {
            int m = motion;
            EDGE.refused("price(" + m + ", 1)", State.fresh(), x -> x.price(m, 1), ModalKeys.NOT);
            EDGE.due("price(" + m + ", 2)", new ModalKeys().price(m, 2), 1);
            EDGE.due("price(" + m + ", 8)", new ModalKeys().price(m, 8), 1);
            EDGE.due("price(" + m + ", 9)", new ModalKeys().price(m, 9), 1);
            EDGE.refused("price(" + m + ", 0)", State.rich(""), x -> x.price(m, 0), ModalKeys.BAD);
            EDGE.refused("price(" + m + ", 10)", State.rich(""), x -> x.price(m, 10), ModalKeys.BAD);
        }
        for (int v : new int[] {0, 10, -1, 11, 256 + 5, MIN, MAX}) {
            EDGE.refusedEverywhere("price(3, " + v + ")", x -> x.price(3, v), ModalKeys.BAD);
        }
        ModalKeys x = new ModalKeys();
        x.price(3, 9);
        EDGE.due("from 9 to 1", x.price(3, 1), 9);
        x.price(3, 9);
        x.price(3, 0);
        x.price(3, 10);
        EDGE.due("9 it is still", x.price(3, 9), ModalKeys.NOT);
    }

    private static void whatItWas() {
        ModalKeys x = Hand.on("ab");
        int was = 1;
        for (int v = 2; v <= 9; v++) {
            EDGE.due("price(1, " + v + ")", x.price(1, v), was);
            was = v;
        }
        for (int motion = 0; motion < 7; motion++) {
            EDGE.due("price of " + motion + " alone", x.price(motion, 5), motion == 1 ? 9 : 1);
        }
        x.line();
        EDGE.due("behind line()", x.price(1, 6), 5);
    }

    private static void itIsSo() {
        EDGE.refusedEverywhere("price(2, 1)", x -> x.price(2, 1), ModalKeys.NOT);
        EDGE.refusedWithSheets("price(0, 5)", x -> x.price(0, 5), ModalKeys.NOT);
        EDGE.refusedWithSheets("price(4, 7)", x -> x.price(4, 7), ModalKeys.NOT);
        EDGE.due("one less", State.rich("").make().price(4, 6), 7);
        EDGE.due("one more", State.rich("").make().price(4, 8), 7);
        for (int motion : new int[] {-1, 7, 8, MIN, MAX}) {
            EDGE.refusedEverywhere("price(" + motion + ", 1)", x -> x.price(motion, 1), ModalKeys.BAD);
            EDGE.refusedEverywhere("price(" + motion + ", 2)", x -> x.price(motion, 2), ModalKeys.BAD);
        }
        EDGE.due("price(6, 2)", new ModalKeys().price(6, 2), 1);
        EDGE.due("price(0, 2)", new ModalKeys().price(0, 2), 1);
    }

    private static void placesOfSteps() {
        for (String line : LINES) {
            int last = Math.max(0, line.length() - 1);
            State state = State.after(line, "");
            for (int k = -2; k <= 0; k++) {
                int asked = k;
                EDGE.refused("steps(-1, " + k + ")", state, x -> x.steps(-1, asked), ModalKeys.BAD);
                EDGE.refused("steps(last + 1, " + k + ")", state, x -> x.steps(last + 1, asked), ModalKeys.BAD);
            }
            EDGE.due(state.name + ": steps(0, -1)", state.make().steps(0, -1), 0);
            EDGE.due(state.name + ": steps(last, -1)", state.make().steps(last, -1), last == 0 ? 0 : 1);
        }
        for (int place : new int[] {MIN, -60, 60, 61, MAX}) {
            EDGE.refusedEverywhere("steps(" + place + ", -1)", x -> x.steps(place, -1), ModalKeys.BAD);
        }
        EDGE.due("L is 0: how many", new ModalKeys().steps(0, -1), 0);
        EDGE.due("L is 0: their PRICE", new ModalKeys().steps(0, -2), 0);
        EDGE.refused("L is 0: the first", State.fresh(), x -> x.steps(0, 0), ModalKeys.NONE);
        EDGE.due("L is 1 by x", Hand.after("ab", "x").steps(0, -1), 0);
        EDGE.refused("steps(1, -1)", State.after("ab", "x"), x -> x.steps(1, -1), ModalKeys.BAD);
    }

    /** From the first place of a word of seven: to none, one, two, three places on. */
    private static void kthStep() {
        for (int place = 0; place <= 3; place++) {
            int to = place;
            State state = State.after("abcdefg", "");
            EDGE.due("steps(" + to + ", -1)", state.make().steps(to, -1), to);
            EDGE.due("steps(" + to + ", -2)", state.make().steps(to, -2), to);
            for (int k = 0; k < to; k++) {
                EDGE.due("steps(" + to + ", " + k + ")", state.make().steps(to, k), 1);
            }
            for (int k : new int[] {to, to + 1, 59, 60, 61, MAX}) {
                EDGE.refused("steps(" + to + ", " + k + ")", state, x -> x.steps(to, k), ModalKeys.NONE);
            }
        }
        ModalKeys x = Hand.on(SIXTY);
        EDGE.due("to the middle of sixty", x.steps(30, -1), 30);
        EDGE.due("the 30th", x.steps(30, 29), 1);
        EDGE.due("the 31st", x.steps(30, 30), ModalKeys.NONE);
        EDGE.due("of two ways as dear the one by l", x.steps(30, 0), 1);
        EDGE.due("29 by the end", x.steps(31, -1), 29);
        EDGE.due("to the end", x.steps(31, 0), 3);
        EDGE.due("the 29th from there", x.steps(31, 28), 0);
        EDGE.due("29 by l", x.steps(29, -1), 29);
    }

    private static void kBelow() {
        for (int k : new int[] {-3, -4, -60, MIN, MIN + 1}) {
            EDGE.refusedEverywhere("steps(0, " + k + ")", x -> x.steps(0, k), ModalKeys.BAD);
        }
        EDGE.due("k -2", Hand.on("abc").steps(1, -2), 1);
        EDGE.due("k -1", Hand.on("abc").steps(1, -1), 1);
        EDGE.due("k 0", Hand.on("abc").steps(1, 0), 1);
        EDGE.refused("steps(3, -3)", State.after("abc", ""), x -> x.steps(3, -3), ModalKeys.BAD);
    }

    private static void theFirstOfSeveral() {
        row("abc", "", "", 1, "1", 1);
        row("abc", "", "", 2, "3", 1);
        row("abc", "", "39", 2, "4", 1);
        row("abc", "", "3949", 2, "6", 1);
        row("abc", "", "394969", 2, "11", 2);
        row("abc", "", "324969", 2, "11", 2);
        row("abc", "", "12324969", 2, "3", 2);
        row("abc", "", "13344464", 2, "3", 4);
        row("abc", "", "12334363", 2, "3", 3);
        row("abc", "$", "", 0, "2", 1);
        row("abc", "$", "", 1, "0", 1);
        row("abc", "$", "0229", 0, "5", 1);
        row("abc", "$", "022959", 0, "00", 4);
        row("abc", "l", "", 0, "0", 1);
        row("abc", "l", "09", 0, "2", 1);
        row("ab", "", "19394969", 1, "1", 9);
        row("ab", "", "19384969", 1, "3", 8);
        row("ab", "$", "092959", 0, "0", 9);
    }

    /** Figures in pairs: a motion and its price. */
    private static void row(String line, String keys, String prices, int place, String due, int price) {
        ModalKeys x = Hand.after(line, keys);
        for (int i = 0; i + 1 < prices.length(); i += 2) {
            x.price(prices.charAt(i) - '0', prices.charAt(i + 1) - '0');
        }
        StringBuilder got = new StringBuilder();
        for (int step = x.steps(place, 0); step >= 0 && got.length() < 60; step = x.steps(place, got.length())) {
            got.append(step);
        }
        String about = "\"" + line + "\" by \"" + keys + "\" with prices " + prices + " to " + place;
        EDGE.due(about, got.toString(), due);
        EDGE.due(about + ": how many", x.steps(place, -1), due.length());
        EDGE.due(about + ": PRICE", x.steps(place, -2), price);
    }

    private static void twoWhats() {
        for (int what : new int[] {-1, 2, 3, 256, MIN, MAX}) {
            EDGE.refusedEverywhere("farthest(" + what + ")", x -> x.farthest(what), ModalKeys.BAD);
        }
        EDGE.due("farthest(0)", Hand.on("abcd").farthest(0), 2);
        EDGE.due("farthest(1)", Hand.on("abcd").farthest(1), 2);
    }

    private static void greatestPrice() {
        farthest("", "", 0, 0);
        farthest("a", "", 0, 0);
        farthest(" ", "", 0, 0);
        farthest("ab", "", 1, 1);
        farthest("ab", "l", 1, 0);
        farthest("abc", "", 1, 1);
        farthest("abc", "l", 1, 0);
        farthest("abc", "$", 1, 0);
        farthest("abcde", "", 2, 2);
        farthest("abcde", "2l", 1, 0);
        farthest(SIXTY, "", 30, 30);
        farthest(SIXTY, "$", 30, 29);
        farthest(SIXTY, "l", 29, 30);
        ModalKeys x = Hand.on("ab");
        for (int motion = 0; motion < 7; motion++) {
            x.price(motion, 9);
        }
        EDGE.due("all at 9", x.farthest(0), 9);
        EDGE.due("all at 9, the place", x.farthest(1), 1);
        ModalKeys long9 = Hand.on(SIXTY);
        for (int motion = 0; motion < 7; motion++) {
            long9.price(motion, 9);
        }
        EDGE.due("sixty, all at 9", long9.farthest(0), 270);
    }

    private static void farthest(String line, String keys, int price, int place) {
        ModalKeys x = Hand.after(line, keys);
        EDGE.due("\"" + line + "\" by \"" + keys + "\": the PRICE", x.farthest(0), price);
        EDGE.due("\"" + line + "\" by \"" + keys + "\": the place", x.farthest(1), place);
    }

    private static void placesAtOnce() {
        for (String line : LINES) {
            int last = Math.max(0, line.length() - 1);
            State state = State.after(line, "");
            EDGE.refused("once(-1)", state, x -> x.once(-1), ModalKeys.BAD);
            EDGE.refused("once(last + 1)", state, x -> x.once(last + 1), ModalKeys.BAD);
            EDGE.holds(state.name + ": once(0)", state.make().once(0) >= 0);
            EDGE.holds(state.name + ": once(last)", state.make().once(last) > 0);
        }
        for (int place : new int[] {MIN, -60, 60, 61, MAX}) {
            EDGE.refusedEverywhere("once(" + place + ")", x -> x.once(place), ModalKeys.BAD);
        }
    }

    private static void motionsAtOnce() {
        EDGE.due("L is 0", new ModalKeys().once(0), 127);
        EDGE.due("L is 1", Hand.on("a").once(0), 127);
        EDGE.due("from 0 to 0", Hand.on("abc").once(0), 1 + 4 + 32);
        EDGE.due("from 0 to 1", Hand.on("abc").once(1), 2);
        EDGE.due("from 0 to 2", Hand.on("abc").once(2), 8 + 16 + 64);
        EDGE.due("from the last to it", Hand.after("abc", "$").once(2), 2 + 8 + 16 + 64);
        EDGE.due("from the last to one less", Hand.after("abc", "$").once(1), 1);
        EDGE.due("from the last to 0", Hand.after("abc", "$").once(0), 4 + 32);
        EDGE.due("none leads there", Hand.on("abcd").once(2), 0);
    }

    private static void timesThatGo() {
        for (int n : new int[] {0, 100, -1, 101, 256 + 1, MIN, MAX}) {
            for (int motion = 0; motion < 7; motion++) {
                int m = motion;
                EDGE.refused("goes(" + m + ", " + n + ")", State.rich("2d"), x -> x.goes(m, n), ModalKeys.BAD);
            }
            EDGE.refusedEverywhere("goes(1, " + n + ")", x -> x.goes(1, n), ModalKeys.BAD);
        }
        int[] times = {1, 2, 58, 59, 60, 61, 98, 99};
        int[] due = {1, 2, 58, 59, 60, 60, 60, 60};
        for (int i = 0; i < times.length; i++) {
            EDGE.due("goes(1, " + times[i] + ") of sixty", Hand.on(SIXTY).goes(1, times[i]), due[i]);
            EDGE.due("goes(0, " + times[i] + ") from the last", Hand.after(SIXTY, "$").goes(0, times[i]), Math.min(59, due[i]));
            EDGE.due("goes(0, " + times[i] + ") from 0", Hand.on(SIXTY).goes(0, times[i]), 0);
            for (int motion = 0; motion < 7; motion++) {
                EDGE.due("L is 0: goes(" + motion + ", " + times[i] + ")", new ModalKeys().goes(motion, times[i]), 0);
            }
        }
        for (String line : LINES) {
            for (int motion = 0; motion < 7; motion++) {
                for (int n : new int[] {1, 2, 99}) {
                    asByD(line, "", motion, n);
                    asByD(line, "$", motion, n);
                    asByD(line, "2l", motion, n);
                }
            }
        }
    }

    /** What goes by the keys themselves. */
    private static void asByD(String line, String keys, int motion, int n) {
        int foretold = Hand.after(line, keys).goes(motion, n);
        ModalKeys x = Hand.after(line, keys + n + "d" + "hl0$wbe".charAt(motion));
        EDGE.due("\"" + line + "\" by " + keys + ": goes(" + motion + ", " + n + ")", foretold, line.length() - x.count(0));
    }

    private static void motionsThatGo() {
        for (int motion : new int[] {-1, 7, 8, MIN, MAX}) {
            EDGE.refusedEverywhere("goes(" + motion + ", 1)", x -> x.goes(motion, 1), ModalKeys.BAD);
        }
        EDGE.due("goes(0, 1)", Hand.after("ab cd", "$").goes(0, 1), 1);
        EDGE.due("goes(6, 1)", Hand.on("ab cd").goes(6, 1), 2);
    }

    private static void timesStruck() {
        for (int n : new int[] {-1, 5, 6, -4, 256, MIN, MAX}) {
            EDGE.refusedEverywhere("struck(0, " + n + ", 0)", x -> x.struck(0, n, 0), ModalKeys.BAD);
            EDGE.refusedEverywhere("struck(0, " + n + ", 1)", x -> x.struck(0, n, 1), ModalKeys.BAD);
        }
        for (String line : LINES) {
            for (int n = 0; n <= 4; n++) {
                asByTryingAll(line, "", n);
                asByTryingAll(line, "$", n);
            }
        }
        fraction("abc", "", 0, 0, 1, 1);
        fraction("abc", "", 1, 0, 0, 1);
        fraction("abc", "", 1, 1, 1, 7);
        fraction("abc", "", 0, 1, 3, 7);
        fraction(SIXTY, "", 4, 4, 1, 2401);
        fraction(SIXTY, "", 5, 4, 0, 1);
        fraction(SIXTY, "", 3, 3, 1, 343);
        ModalKeys x = Hand.on("abc");
        for (int time = 1; time <= 3; time++) {
            EDGE.due("n 4, asked for the " + time + ". time", x.struck(1, 4, 1), Hand.on("abc").struck(1, 4, 1));
            EDGE.due("n 1, asked for the " + time + ". time", x.struck(2, 1, 0), 3);
            EDGE.due("n 0, asked for the " + time + ". time", x.struck(0, 0, 0), 1);
            EDGE.due("n 0 elsewhere, asked for the " + time + ". time", x.struck(2, 0, 0), 0);
        }
    }

    private static void fraction(String line, String keys, int place, int n, int above, int below) {
        String about = "\"" + line + "\" by \"" + keys + "\": struck(" + place + ", " + n + ", ";
        EDGE.due(about + "0)", Hand.after(line, keys).struck(place, n, 0), above);
        EDGE.due(about + "1)", Hand.after(line, keys).struck(place, n, 1), below);
    }

    /** The fraction of all rows of motions that end at the first, a middle and the last place. */
    private static void asByTryingAll(String line, String keys, int n) {
        ModalKeys x = Hand.after(line, keys);
        int last = Math.max(0, line.length() - 1);
        int[] ends = new int[last + 1];
        follow(deeds(x, last), x.count(1), n, ends);
        int all = (int) Math.round(Math.pow(7, n));
        for (int place : new int[] {0, last / 2, last}) {
            int common = Model.commonDivisor(ends[place], all);
            fraction(line, keys, place, n, ends[place] / common, all / common);
        }
    }

    /** Where each motion leads from each place; asked once, since an object has 512 calls. */
    private static int[][] deeds(ModalKeys x, int last) {
        int[][] to = new int[last + 1][7];
        for (int place = 0; place <= last; place++) {
            for (int motion = 0; motion < 7; motion++) {
                to[place][motion] = Math.min(last, x.leads(motion, place));
            }
        }
        return to;
    }

    private static void follow(int[][] deeds, int place, int left, int[] ends) {
        if (left == 0) {
            ends[place]++;
            return;
        }
        for (int motion = 0; motion < 7; motion++) {
            follow(deeds, deeds[place][motion], left - 1, ends);
        }
    }

    private static void aboveAndBelow() {
        for (int what : new int[] {-1, 2, 3, 256, MIN, MAX}) {
            EDGE.refusedEverywhere("struck(0, 1, " + what + ")", x -> x.struck(0, 1, what), ModalKeys.BAD);
        }
        EDGE.due("struck(0, 1, 0)", Hand.on("abc").struck(0, 1, 0), 3);
        EDGE.due("struck(0, 1, 1)", Hand.on("abc").struck(0, 1, 1), 7);
    }

    private static void placesStruck() {
        for (String line : LINES) {
            int last = Math.max(0, line.length() - 1);
            State state = State.after(line, "");
            EDGE.refused("struck(-1, 1, 0)", state, x -> x.struck(-1, 1, 0), ModalKeys.BAD);
            EDGE.refused("struck(last + 1, 1, 0)", state, x -> x.struck(last + 1, 1, 0), ModalKeys.BAD);
            EDGE.refused("struck(last + 1, 0, 1)", state, x -> x.struck(last + 1, 0, 1), ModalKeys.BAD);
            EDGE.holds(state.name + ": struck(0, 1, 0)", state.make().struck(0, 1, 0) > 0);
            EDGE.holds(state.name + ": struck(last, 1, 0)", state.make().struck(last, 1, 0) > 0);
        }
        for (int place : new int[] {MIN, -60, 60, 61, MAX}) {
            EDGE.refusedEverywhere("struck(" + place + ", 4, 0)", x -> x.struck(place, 4, 0), ModalKeys.BAD);
        }
        for (int n = 0; n <= 4; n++) {
            fraction("", "", 0, n, 1, 1);
            fraction("a", "", 0, n, 1, 1);
        }
    }

    private static void lowestTerms() {
        fraction("ab", "", 0, 1, 3, 7);
        fraction("ab", "", 0, 2, 3, 7);
        fraction("ab", "", 0, 4, 3, 7);
        fraction("ab", "", 1, 4, 4, 7);
        fraction("ab", "$", 1, 0, 1, 1);
        fraction("ab", "$", 0, 0, 0, 1);
        fraction(SIXTY, "", 30, 4, 0, 1);
        fraction(SIXTY, "", 1, 1, 1, 7);
        fraction(SIXTY, "", 2, 2, 1, 49);
    }

    private static void nothingIsChanged() {
        for (State state : State.everywhere()) {
            EDGE.changesNothing("leads(4, 0)", state, x -> x.leads(4, 0));
            EDGE.changesNothing("steps(0, -1)", state, x -> x.steps(0, -1));
            EDGE.changesNothing("steps(0, -2)", state, x -> x.steps(0, -2));
            EDGE.changesNothing("steps(L - 1, 0)", state, x -> x.steps(Math.max(0, x.count(0) - 1), 0));
            EDGE.changesNothing("farthest(0)", state, x -> x.farthest(0));
            EDGE.changesNothing("farthest(1)", state, x -> x.farthest(1));
            EDGE.changesNothing("once(0)", state, x -> x.once(0));
            EDGE.changesNothing("goes(6, 99)", state, x -> x.goes(6, 99));
            EDGE.changesNothing("goes(0, 2)", state, x -> x.goes(0, 2));
            EDGE.changesNothing("struck(0, 4, 0)", state, x -> x.struck(0, 4, 0));
        }
    }

    private static void asDeeds() {
        EDGE.due("w from the last word, as a deed", Hand.on("abc").once(2), 8 + 16 + 64);
        EDGE.due("w from the last word, n times", Hand.on("abc").goes(4, 1), 3);
        EDGE.due("l from the last place, as a deed", Hand.after("abc", "$").once(2) & 2, 2);
        EDGE.due("l from the last place goes with it", Hand.after("abc", "$").goes(1, 1), 1);
        EDGE.due("steps never leave L less 1", Hand.after("abc", "$").steps(1, 0), 0);
        EDGE.due("nor need they come back", Hand.after("abc", "$").steps(1, -1), 1);
    }

    /** Who inserts at L foretells as if at L less 1. */
    private static void fromTheLast() {
        for (String line : LINES) {
            ModalKeys at = Hand.after(line, "A");
            ModalKeys ahead = Hand.after(line, "$");
            EDGE.due("\"" + line + "\": THE CURSOR", at.count(1), line.length());
            int last = Math.max(0, line.length() - 1);
            for (int place = 0; place <= last; place += Math.max(1, last / 4)) {
                EDGE.due("\"" + line + "\": once(" + place + ")", at.once(place), ahead.once(place));
                EDGE.due("\"" + line + "\": steps(" + place + ", -1)", at.steps(place, -1), ahead.steps(place, -1));
                EDGE.due("\"" + line + "\": steps(" + place + ", -2)", at.steps(place, -2), ahead.steps(place, -2));
                EDGE.due("\"" + line + "\": steps(" + place + ", 0)", at.steps(place, 0), ahead.steps(place, 0));
                for (int n = 0; n <= 4; n++) {
                    EDGE.due("\"" + line + "\": struck(" + place + ", " + n + ", 0)", at.struck(place, n, 0), ahead.struck(place, n, 0));
                }
            }
            EDGE.due("\"" + line + "\": steps(L, -1)", at.steps(last + 1, -1), ModalKeys.BAD);
            EDGE.due("\"" + line + "\": once(L)", at.once(last + 1), ModalKeys.BAD);
            EDGE.due("\"" + line + "\": farthest(0)", at.farthest(0), ahead.farthest(0));
            EDGE.due("\"" + line + "\": farthest(1)", at.farthest(1), ahead.farthest(1));
            for (int motion = 0; motion < 7; motion++) {
                EDGE.due("\"" + line + "\": goes(" + motion + ", 1)", at.goes(motion, 1), ahead.goes(motion, 1));
                EDGE.due("\"" + line + "\": goes(" + motion + ", 99)", at.goes(motion, 99), ahead.goes(motion, 99));
            }
        }
        EDGE.due("one less than L is the place itself", Hand.after("abc", "$i").steps(2, -1), 0);
        EDGE.due("two less than L", Hand.after("abc", "$hi").steps(2, -1), 1);
    }

    /** Whatever comes behind the image is gone by restore(), and nothing else. */
    private static void allIsKept() {
        for (State state : State.everywhere()) {
            EDGE.due(state.name + ": image()", state.make().image(), 1);
            State kept = new State(state.name + " with an image", () -> {
                ModalKeys x = state.make();
                x.image();
                return x;
            });
            EDGE.changesNothing("keys and prices, then restore()", kept, x -> {
                Hand.strike(x, "!dw$mdP3~iqq!ddu.x3");
                x.price(5, 3);
                x.price(0, 4);
                return x.restore();
            });
            EDGE.changesNothing("restore() at once", kept, ModalKeys::restore);
            EDGE.changesNothing("restore() twice", kept, x -> {
                Hand.strike(x, "!x");
                x.restore();
                Hand.strike(x, "!ddiq");
                return x.restore();
            });
        }
    }

    private static void sheetsAndTapeAreNotKept() {
        ModalKeys x = State.rich("").make();
        x.image();
        x.type('q');
        x.drop(1);
        x.sheet(0, 2, 7);
        x.item(3, 3, 4, 'x');
        x.restore();
        EDGE.due("a SHEET that was dropped", x.drop(1), ModalKeys.NULL);
        EDGE.due("a SHEET that was new", x.drop(0), 7);
        EDGE.due("an item that was put", x.play(3, 3, 4, 1), 0);
        EDGE.due("THE TAPE", x.line(), 5);
        EDGE.due("its letters", Hand.lineOf(x), "tapeq");
        ModalKeys y = State.rich("").make();
        y.image();
        y.line();
        y.restore();
        EDGE.due("THE TAPE that was emptied", y.line(), 0);
    }

    private static void asItWas() {
        ModalKeys x = Hand.on("first");
        EDGE.due("image()", x.image(), 1);
        Hand.tell(x, "second");
        EDGE.due("restore()", x.restore(), 1);
        EDGE.due("the first", Hand.lineOf(x), "first");
        Hand.tell(x, "third");
        EDGE.due("image() once more", x.image(), 1);
        x.line();
        EDGE.due("restore() once more", x.restore(), 1);
        EDGE.due("the latest", Hand.lineOf(x), "third");
        x.line();
        EDGE.due("restore() a second time", x.restore(), 1);
        EDGE.due("the latest still", Hand.lineOf(x), "third");
        ModalKeys empty = new ModalKeys();
        empty.image();
        Hand.tell(empty, "abc");
        empty.restore();
        EDGE.due("of an empty line", Hand.look(empty), "|0|");
    }

    private static void noImage() {
        for (String keys : new String[] {"", "x", "2d", "r", "A", "cwq", "xmau"}) {
            EDGE.refused("restore()", State.after("ab cd", keys), ModalKeys::restore, ModalKeys.NONE);
        }
        EDGE.refused("restore()", State.fresh(), ModalKeys::restore, ModalKeys.NONE);
        EDGE.refused("restore()", State.after(SIXTY, "iq"), ModalKeys::restore, ModalKeys.NONE);
        EDGE.due("one there is", State.rich("").make().restore(), 1);
        ModalKeys x = new ModalKeys();
        x.image();
        EDGE.due("of a new object", x.restore(), 1);
    }
}
