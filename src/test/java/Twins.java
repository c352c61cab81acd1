import java.util.ArrayList;
import java.util.List;
import java.util.function.Function;

/**
 * Two objects of one state, of which one has got a call more: in which answers they differ from then on.
 * Looking may change an object, so each look is had on a new pair.
 */
final class Twins {
    private static final int LANES = 4;
    private static final String[] TAILS = {"l", "2l", "w", "aw", "d", "0x", "a!", "!x", "b!x"};

    private Twins() {
    }

    static List<String> differences(State state, Edge.Call call) {
        List<String> found = new ArrayList<>();
        compare(found, "what is seen", state, call, Twins::seen);
        for (String tail : TAILS) {
            compare(found, "how \"" + tail + "\" goes on", state, call, x -> answers(x, tail) + seen(x));
        }
        for (int n = 1; n <= 9; n++) {
            String keys = "!" + "u".repeat(n);
            compare(found, "what is undone by " + keys, state, call, x -> answers(x, keys) + seen(x));
        }
        compare(found, "what is done once more", state, call, x -> answers(x, "!..") + seen(x));
        compare(found, "the tape", state, call, Twins::tape);
        compare(found, "the image", state, call, x -> x.restore() + seen(x) + answers(x, "lu.") + prices(x));
        compare(found, "the prices", state, call, Twins::prices);
        for (int sheet = 0; sheet < 4; sheet++) {
            int s = sheet;
            compare(found, "sheet " + s, state, call, x -> sheet(x, s));
        }
        return found;
    }

    private static void compare(
            List<String> found, String what, State state, Edge.Call call, Function<ModalKeys, String> look) {
        ModalKeys left = state.make();
        ModalKeys called = state.make();
        call.on(called);
        String without = look.apply(left);
        String with = look.apply(called);
        if (!without.equals(with)) {
            found.add(what + ": <" + without + "> became <" + with + ">");
        }
    }

    static String seen(ModalKeys x) {
        StringBuilder b = new StringBuilder(Hand.look(x)).append(' ').append(Hand.counts(x));
        for (int k = 0; k < 4; k++) {
            b.append(x.mark(k)).append(' ');
        }
        return b.toString();
    }

    private static String answers(ModalKeys x, String keys) {
        StringBuilder b = new StringBuilder();
        for (int i = 0; i < keys.length(); i++) {
            b.append(x.key(keys.charAt(i))).append(' ');
        }
        return b.toString();
    }

    private static String tape(ModalKeys x) {
        return x.type('q') + " " + x.line() + " " + seen(x);
    }

    private static String prices(ModalKeys x) {
        StringBuilder b = new StringBuilder();
        for (int motion = 0; motion < 7; motion++) {
            b.append(x.price(motion, 9)).append(' ');
        }
        return b.toString();
    }

    /**
     * Which lane a sheet is of, its items (those that are keys) by inserting them, and how many there are. Only calls
     * that alter no item: one that did so in both would hide what the call altered.
     */
    private static String sheet(ModalKeys x, int sheet) {
        StringBuilder b = new StringBuilder();
        x.line();
        x.line();
        x.key('i');
        for (int lane = 0; lane < LANES; lane++) {
            for (int i = 0; i < 24; i++) {
                b.append(x.play(sheet, lane, i, 1)).append(' ');
            }
        }
        return b.append(Hand.lineOf(x)).append(' ').append(x.drop(sheet)).toString();
    }
}
