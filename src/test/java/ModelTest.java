import java.util.Random;

/** Promises 2 to 18 together: long runs of keys, against the model, after each key. */
public final class ModelTest {
    private static final Check CHECK = new Check("ModelTest");
    private static final String[] LINES = {
        "", "a", "one two  (three; four) five", "((a) b (c)) ;;d", "()(() ())a", "aAbB (cC) 12 34", "  x  ",
        "abc def ghi jkl mno pqr stu vwx yz. 0123456789 (abcdefghij) ;"};

    public static void main(String[] args) {
        for (int seed = 0; seed < 3000 && CHECK.wrong() == 0; seed++) {
            run(new Random(seed), "seed " + seed);
        }
        CHECK.end();
    }

    private static void run(Random random, String name) {
        String line = LINES[random.nextInt(LINES.length)];
        line = line.substring(0, Math.min(60, line.length()));
        ModalKeys x = Hand.on(line);
        Model model = new Model();
        Striker striker = new Striker(random);
        model.tell(line);
        StringBuilder struck = new StringBuilder("\"" + line + "\" ");
        for (int i = 0; i < 120 && CHECK.wrong() == 0; i++) {
            char c = striker.next(model.inserts);
            struck.append(c);
            int want = model.key(c);
            CHECK.due(name + ", after " + struck + ": key", x.key(c), want);
            compare(x, model, name + ", after " + struck);
        }
    }

    private static void compare(ModalKeys x, Model model, String when) {
        CHECK.due(when + ": line", Hand.lineOf(x), model.line);
        CHECK.due(when + ": store", Hand.storeOf(x), model.store);
        for (int k = 0; k < 4; k++) {
            CHECK.due(when + ": mark " + k, x.mark(k), model.marks[k] == null ? ModalKeys.NONE : model.marks[k]);
        }
        int[] counts = model.counts();
        for (int what = 0; what < counts.length; what++) {
            CHECK.due(when + ": count " + what, x.count(what), counts[what]);
        }
        int hash = when.length();
        int motion = hash % 7;
        CHECK.due(when + ": leads", x.leads(motion, model.cursor), model.lead(motion, model.cursor));
        int[] sets = model.setsAtOnce();
        int place = hash % sets.length;
        CHECK.due(when + ": once(" + place + ")", x.once(place), sets[place]);
        CHECK.due(when + ": goes", x.goes(motion, 1 + hash % 5), model.wouldGo(motion, 1 + hash % 5));
    }
}
