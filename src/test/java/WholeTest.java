import java.util.Random;

/** Promises 1 to 23 together: runs of all calls, as long as an object is used, against the model of all of them. */
public final class WholeTest {
    private static final Check CHECK = new Check("WholeTest");
    private static final int RUNS = 2000;
    private static final int CALLS = 512;
    private static final int[] ODD = {
        Integer.MIN_VALUE, -61, -3, -2, -1, 0, 1, 2, 4, 5, 7, 8, 9, 10, 24, 25, 31, 32, 60, 61, 99, 100, 126, 127, 256, 1 << 16,
        Integer.MAX_VALUE};
    private static final long[] ODD_ITEMS = {
        -1, 0, 31, 127, 128, 255, 256 + 'x', 32768, 65536 + 'w', (1L << 32) + 'd', Long.MIN_VALUE, Long.MAX_VALUE};
    private static final String[] TEXTS = {
        "", "a", "one two  (three; four) five", "((a) b (c)) ;;d", "()(() ())a", "aAbB (cC) 12 34", "  x  ", ";; ,a1 ",
        "abc def ghi jkl mno pqr stu vwx yz. 0123456789 (abcdefghij)"};

    private final Random random;
    private final Striker striker;
    private final String name;
    private final ModalKeys x = new ModalKeys();
    private final Whole whole = new Whole();
    // What takes several calls, one of them at a time: a text to be typed, items of a sheet to be filled.
    private String toType = "";
    private int filling = 0;
    private int toFill = 0;
    private int calls = 0;

    private WholeTest(int seed) {
        random = new Random(seed);
        striker = new Striker(random);
        name = "run " + seed;
    }

    public static void main(String[] args) {
        for (int seed = 0; seed < RUNS && CHECK.wrong() == 0; seed++) {
            new WholeTest(seed).run();
        }
        CHECK.end();
    }

    private void run() {
        while (calls < CALLS && CHECK.wrong() == 0) {
            next();
        }
    }

    private void due(String call, int got, int want) {
        calls++;
        CHECK.due(name + ", call " + calls + ": " + call, got, want);
    }

    /** A number that is mostly in order, or one of those that are odd. */
    private int any(int from, int to) {
        return random.nextInt(8) == 0 ? ODD[random.nextInt(ODD.length)] : from + random.nextInt(Math.max(1, to - from + 1));
    }

    private int anyPlace() {
        return any(0, whole.desk.last());
    }

    private int anySheet() {
        return any(0, 3);
    }

    /** Mostly the lane that a sheet is of. */
    private int laneOf(int s) {
        return s >= 0 && s <= 3 && random.nextInt(8) > 0 ? whole.machine.lane(s) : any(0, 3);
    }

    private long anyItem() {
        return random.nextInt(30) == 0 ? ODD_ITEMS[random.nextInt(ODD_ITEMS.length)] : anyKey();
    }

    private int anyKey() {
        return random.nextInt(60) == 0 ? any(32, 126) : striker.next(whole.desk.inserts);
    }

    private void next() {
        int which = random.nextInt(100);
        if (!toType.isEmpty()) {
            typeNext();
        } else if (toFill > 0) {
            fillNext();
        } else if (which < 51) {
            int c = anyKey();
            due("key(" + c + ")", x.key(c), whole.key(c));
        } else if (which < 52) {
            toType = TEXTS[random.nextInt(TEXTS.length)] + "\n";
        } else if (which < 68) {
            look();
        } else if (which < 78) {
            foretell();
        } else if (which < 81) {
            keep();
        } else {
            work();
        }
    }

    private void typeNext() {
        int c = toType.charAt(0);
        toType = toType.substring(1);
        if (c == '\n') {
            due("line()", x.line(), whole.line());
        } else {
            due("type(" + c + ")", x.type(c), whole.type(c));
        }
    }

    private void fillNext() {
        toFill--;
        write(filling, laneOf(filling), toFill, anyItem());
    }

    private void write(int s, int lane, int i, long v) {
        due("item(" + s + ", " + lane + ", " + i + ", " + v + ")", x.item(s, lane, i, v), whole.machine.item(s, lane, i, v));
    }

    private void look() {
        int k;
        switch (random.nextInt(5)) {
            case 0:
                k = any(32, 126);
                due("type(" + k + ")", x.type(k), whole.type(k));
                break;
            case 1:
                k = anyPlace();
                due("letter(" + k + ")", x.letter(k), whole.letter(k));
                break;
            case 2:
                k = any(0, whole.desk.store.length());
                due("store(" + k + ")", x.store(k), whole.store(k));
                break;
            case 3:
                k = any(0, 3);
                due("mark(" + k + ")", x.mark(k), whole.mark(k));
                break;
            default:
                k = any(0, 8);
                due("count(" + k + ")", x.count(k), whole.count(k));
        }
    }

    private void foretell() {
        int a = any(0, 6);
        int place = anyPlace();
        int b;
        switch (random.nextInt(7)) {
            case 0:
                b = any(1, 9);
                due("price(" + a + ", " + b + ")", x.price(a, b), whole.price(a, b));
                break;
            case 1:
                b = any(0, whole.desk.line.length());
                due("leads(" + a + ", " + b + ")", x.leads(a, b), whole.leads(a, b));
                break;
            case 2:
                b = any(-3, 5);
                due("steps(" + place + ", " + b + ")", x.steps(place, b), whole.steps(place, b));
                break;
            case 3:
                b = any(0, 1);
                due("farthest(" + b + ")", x.farthest(b), whole.farthest(b));
                break;
            case 4:
                due("once(" + place + ")", x.once(place), whole.once(place));
                break;
            case 5:
                b = any(1, 5);
                due("goes(" + a + ", " + b + ")", x.goes(a, b), whole.goes(a, b));
                break;
            default:
                int n = any(0, 4);
                b = any(0, 1);
                due("struck(" + place + ", " + n + ", " + b + ")", x.struck(place, n, b), whole.struck(place, n, b));
        }
    }

    private void keep() {
        if (random.nextInt(2) == 0) {
            due("image()", x.image(), whole.image());
        } else {
            due("restore()", x.restore(), whole.restore());
        }
    }

    private void work() {
        int s = anySheet();
        int lane = laneOf(s);
        int size = s >= 0 && s <= 3 ? whole.machine.size(s) : 0;
        int i = any(0, size - 1);
        int n = any(1, size - i);
        switch (random.nextInt(9)) {
            case 0: case 1:
                renew(s);
                break;
            case 2:
                write(s, lane, i, anyItem());
                break;
            case 3: case 4:
                int place = anyPlace();
                due("film(" + place + ", " + n + ", " + s + ", " + lane + ", " + i + ")",
                    x.film(place, n, s, lane, i), whole.film(place, n, s, lane, i));
                break;
            case 5: case 6:
                due("play(" + s + ", " + lane + ", " + i + ", " + n + ")", x.play(s, lane, i, n), whole.play(s, lane, i, n));
                break;
            default:
                int to = anySheet();
                int j = any(0, size - 1);
                due("copy(" + s + ", " + i + ", " + to + ", " + j + ", " + n + ")",
                    x.copy(s, i, to, j, n), whole.machine.copy(s, i, to, j, n));
        }
    }

    /** A new row, and mostly items for it; now and then none at all. */
    private void renew(int s) {
        if (random.nextInt(6) == 0) {
            due("drop(" + s + ")", x.drop(s), whole.machine.drop(s));
            return;
        }
        int lane = any(0, 3);
        int n = any(-1, 24);
        int made = whole.machine.sheet(s, lane, n);
        due("sheet(" + s + ", " + lane + ", " + n + ")", x.sheet(s, lane, n), made);
        filling = s;
        toFill = random.nextInt(4) == 0 ? 0 : Math.max(0, made);
    }
}
