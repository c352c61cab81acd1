import java.util.Random;

/** Keys by chance: now a whole command, now any keys, since single ones seldom make a command of three or four. */
final class Striker {
    private static final String LIKELY = "hl0$wbeft'dyycxr~pPiaIAu..ma123459((( )) abcwwb!";
    private static final String[] OBJECTS = {"iw", "aw", "ib", "ab"};
    private static final String[] NUMBERS = {"", "", "", "", "1", "2", "3", "5", "10", "30", "99", "100"};
    private static final String SOUGHT = "abe (); 1";

    private final Random random;
    private String ahead = "";

    Striker(Random random) {
        this.random = random;
    }

    /** Who inserts would otherwise do so for long. */
    char next(boolean inserts) {
        if (inserts && random.nextInt(6) == 0) {
            ahead = "";
            return '!';
        }
        if (random.nextInt(12) == 0) {
            return (char) (32 + random.nextInt(95));
        }
        if (ahead.isEmpty()) {
            ahead = random.nextInt(2) == 0 ? command() : String.valueOf(one(LIKELY));
        }
        char c = ahead.charAt(0);
        ahead = ahead.substring(1);
        return c;
    }

    private char one(String of) {
        return of.charAt(random.nextInt(of.length()));
    }

    private String number() {
        return NUMBERS[random.nextInt(NUMBERS.length)];
    }

    private String command() {
        switch (random.nextInt(8)) {
            case 0: return number() + motion();
            case 1: return "m" + one("abcd");
            case 2: return number() + "r" + one(SOUGHT);
            case 3: return number() + one("x~pPu.");
            case 4: return one("iaIA") + (random.nextInt(2) == 0 ? "(q)!" : "!");
            default: return range();
        }
    }

    private String motion() {
        switch (random.nextInt(4)) {
            case 0: return "" + one("ft") + one(SOUGHT);
            case 1: return "'" + one("abcd");
            default: return String.valueOf(one("hl0$wbe"));
        }
    }

    private String range() {
        char verb = one("dyc");
        String ending = verb == 'c' ? "z!" : "";
        switch (random.nextInt(5)) {
            case 0: return number() + verb + number() + motion() + ending;
            case 1: return number() + verb + verb + ending;
            default: return verb + OBJECTS[random.nextInt(OBJECTS.length)] + ending;
        }
    }
}
