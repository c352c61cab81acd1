import java.lang.management.ManagementFactory;
import java.util.Random;

/** Whatever the arguments and the state: no call throws, each answers within its bounds, none makes an object. */
public final class LimitsTest {
    private static final Check CHECK = new Check("LimitsTest");
    private static final int[] ODD = {
        Integer.MIN_VALUE, Integer.MIN_VALUE + 1, -61, -3, -2, -1, 0, 1, 2, 3, 4, 5, 6, 7, 23, 24, 25, 59, 60, 61, 99, 100,
        31, 32, 33, 126, 127, 1 << 16, Integer.MAX_VALUE - 24, Integer.MAX_VALUE - 1, Integer.MAX_VALUE};
    private static final String KEYS = "hl0$wbeft'dycxr~pPiaIAu.m123459() abcwb!";

    public static void main(String[] args) {
        oddArguments();
        fullLine();
        noCallMakesObjects();
        CHECK.end();
    }

    private static void oddArguments() {
        for (int seed = 0; seed < 4000; seed++) {
            Random random = new Random(seed);
            ModalKeys x = new ModalKeys();
            int which = -1;
            try {
                for (int i = 0; i < 512; i++) {
                    which = random.nextInt(30);
                    int answer = call(x, which, random);
                    CHECK.holds("call " + which + " answered " + answer, answer >= ModalKeys.SIZE && answer <= 2401);
                }
            } catch (RuntimeException e) {
                CHECK.holds("seed " + seed + ": call " + which + " threw " + e, false);
            }
            CHECK.holds("seed " + seed + ": the cursor stands in the line",
                x.count(1) >= 0 && x.count(1) <= Math.max(0, x.count(0) - 1 + x.count(2)));
        }
    }

    private static int odd(Random random) {
        return random.nextInt(3) == 0 ? ODD[random.nextInt(ODD.length)] : random.nextInt(5);
    }

    private static int call(ModalKeys x, int which, Random r) {
        switch (which) {
            case 0: return x.type(random(r, 32, 126));
            case 1: return x.type(odd(r));
            case 2: return r.nextInt(20) == 0 ? x.line() : x.type('a');
            case 3: return x.letter(odd(r));
            case 4: return x.store(odd(r));
            case 5: return x.mark(odd(r));
            case 6: return x.count(odd(r));
            case 7: return x.key(odd(r));
            case 8: return x.price(odd(r), odd(r));
            case 9: return x.leads(odd(r), odd(r));
            case 10: return x.steps(odd(r), odd(r));
            case 11: return x.farthest(odd(r));
            case 12: return x.once(odd(r));
            case 13: return x.goes(odd(r), odd(r));
            case 14: return x.struck(odd(r), odd(r), odd(r));
            case 15: return x.image();
            case 16: return r.nextInt(9) == 0 ? x.restore() : x.image();
            case 17: return x.play(odd(r), odd(r), odd(r), odd(r));
            case 18: return x.film(odd(r), odd(r), odd(r), odd(r), odd(r));
            case 19: return x.sheet(odd(r), odd(r), odd(r));
            case 20: return x.drop(odd(r));
            case 21: return x.item(odd(r), odd(r), odd(r), random(r, 32, 126));
            case 22: return x.copy(odd(r), odd(r), odd(r), odd(r), odd(r));
            default: return x.key(KEYS.charAt(r.nextInt(KEYS.length())));
        }
    }

    private static int random(Random r, int from, int to) {
        return from + r.nextInt(to - from + 1);
    }

    /** The dearest calls, on the longest line, as often as an object is used. */
    private static void fullLine() {
        ModalKeys x = Hand.on("a ");
        Hand.strike(x, "yy29p0");
        CHECK.due("sixty", x.count(0), 60);
        for (int i = 0; i < 512; i++) {
            CHECK.holds("steps to " + i % 60, x.steps(i % 60, -2) >= 0);
        }
        CHECK.due("steps to the last", x.steps(59, -1), 1);
        CHECK.holds("what is struck is a fraction", x.struck(1, 4, 0) <= x.struck(1, 4, 1));
    }

    private static void noCallMakesObjects() {
        com.sun.management.ThreadMXBean bean = (com.sun.management.ThreadMXBean) ManagementFactory.getThreadMXBean();
        long id = Thread.currentThread().getId();
        Random random = new Random(7);
        ModalKeys x = new ModalKeys();
        for (int i = 0; i < 20000; i++) {
            call(x, i % 30, random);
        }
        long ahead = bean.getThreadAllocatedBytes(id);
        for (int i = 0; i < 200000; i++) {
            call(x, i % 30, random);
        }
        long made = bean.getThreadAllocatedBytes(id) - ahead;
        CHECK.holds("200000 calls made " + made + " bytes", made < 100000);
    }
}
