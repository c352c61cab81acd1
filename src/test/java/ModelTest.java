import java.util.Random;

/** Promises 2 to 18 together: long runs of keys, against the model, after each key. */
public final class ModelTest {
    private static final Check CHECK = new Check("ModelTest");
    private static final String LIKELY = "hl0$wbeft'dyycxr~pPiaIAu..ma123459((( )) abcwwb!";
    private static final String[] LINES = {
        "", "a", "one two  (three; four) five", "((a) b (c)) ;;d", "aAbB (cC) 12 34", "  x  ",
        "abc def ghi jkl mno pqr stu vwx yz. 0123456789 (abcdefghij) ;"};

    public static void main(String[] args) {
        for (int seed = 0; seed < 3000 && CHECK.wrong() == 0; seed++) {
            run(new Random(seed), "seed " + seed);
        }
        CHECK.end();
    }

    private static void run(Random random, String name) {
        String line = LINES[random.nextInt(LINES.length)];
        line = line.substring(0, Math.min(60, line.length()));
        ModalKeys x = Hand.on(line);
        Model model = new Model();
        model.tell(line);
        StringBuilder struck = new StringBuilder("\"" + line + "\" ");
        for (int i = 0; i < 120 && CHECK.wrong() == 0; i++) {
            char c = nextKey(random, model);
            struck.append(c);
            int want = model.key(c);
            CHECK.due(name + ", after " + struck + ": key", x.key(c), want);
            compare(x, model, name + ", after " + struck);
        }
    }

    /** Who inserts would otherwise do so for long. */
    private static char nextKey(Random random, Model model) {
        if (model.inserts && random.nextInt(6) == 0) {
            return '!';
        }
        if (random.nextInt(12) == 0) {
            return (char) (32 + random.nextInt(95));
        }
        return LIKELY.charAt(random.nextInt(LIKELY.length()));
    }

    private static void compare(ModalKeys x, Model model, String when) {
        CHECK.due(when + ": line", Hand.lineOf(x), model.line);
        CHECK.due(when + ": store", Hand.storeOf(x), model.store);
        int set = 0;
        for (int k = 0; k < 4; k++) {
            CHECK.due(when + ": mark " + k, x.mark(k), model.marks[k] == null ? ModalKeys.NONE : model.marks[k]);
            set |= model.marks[k] == null ? 0 : 1 << k;
        }
        int words = (int) java.util.Arrays.stream(model.line.split("[^a-zA-Z0-9]+")).filter(w -> !w.isEmpty()).count();
        int[] counts = {model.line.length(), model.cursor, model.inserts ? 1 : 0, model.pending.isEmpty() ? 0 : 1,
            model.store.length(), set, model.past.size(), words, Math.min(31, model.latest.length())};
        for (int what = 0; what < counts.length; what++) {
            CHECK.due(when + ": count " + what, x.count(what), counts[what]);
        }
        int start = Math.min(model.cursor, model.last());
        int hash = when.length();
        int motion = hash % 7;
        CHECK.due(when + ": leads", x.leads(motion, model.cursor), model.lead(motion, model.cursor));
        int[] sets = new int[model.last() + 1];
        for (int m = 0; m < 7; m++) {
            sets[Math.min(model.last(), model.lead(m, start))] |= 1 << m;
        }
        int place = hash % sets.length;
        CHECK.due(when + ": once(" + place + ")", x.once(place), sets[place]);
        CHECK.due(when + ": goes", x.goes(motion, 1 + hash % 5), wouldGo(model, motion, 1 + hash % 5));
    }

    private static int wouldGo(Model model, int motion, int n) {
        Model other = new Model();
        other.line = model.line;
        other.cursor = Math.min(model.cursor, model.last());
        for (char c : (n + "d" + "hl0$wbe".charAt(motion)).toCharArray()) {
            other.key(c);
        }
        return model.line.length() - other.line.length();
    }
}
