import java.util.function.Supplier;

/** A way to make an object that has come to a state, as often as one is needed. */
final class State {
    static final String SIXTY = "abcdefghijklmnopqrstuvwxyzabcdefghijklmnopqrstuvwxyz01234567";

    final String name;
    private final Supplier<ModalKeys> maker;

    State(String name, Supplier<ModalKeys> maker) {
        this.name = name;
        this.maker = maker;
    }

    ModalKeys make() {
        return maker.get();
    }

    static State after(String line, String keys) {
        return new State("\"" + line + "\" by \"" + keys + "\"", () -> Hand.after(line, keys));
    }

    static State fresh() {
        return new State("a new object", ModalKeys::new);
    }

    /** Something of each kind is there: what a call loses or alters by mistake can be seen. */
    static State rich(String keys) {
        return new State("a rich object by \"" + keys + "\"", () -> {
            ModalKeys x = filled("one (two) three");
            Hand.strike(x, keys);
            return x;
        });
    }

    /** As a rich one, but THE LINE is full, and one inserts; so many letters were FULL that their number is forgotten. */
    static State fullWhileOneInserts() {
        return new State("a full line while one inserts", () -> {
            ModalKeys x = filled("a");
            Hand.strike(x, "ddPyl59p30hi" + "q".repeat(31));
            return x;
        });
    }

    static State fullTape() {
        return new State("a full tape", () -> {
            ModalKeys x = filled("one two");
            for (int i = 4; i < 60; i++) {
                x.type('a' + i % 26);
            }
            return x;
        });
    }

    /** Where a call is refused whatever stands there, it is tried in each of these. */
    static State[] everywhere() {
        State[] rich = withSheets();
        State[] all = new State[rich.length + 1];
        System.arraycopy(rich, 0, all, 1, rich.length);
        all[0] = fresh();
        return all;
    }

    /** Sheet 0 is nothing, 1 bytes a .. x, 2 shorts of which there are none, 3 longs d w x 3 and one that is no key. */
    static State[] withSheets() {
        return new State[] {
            rich(""), rich("12"), rich("2d3"), rich("3r"), rich("dt"), rich("2ci"), rich("2ya"), rich("m"), rich("y'"),
            rich("Axy"), rich("cwxy"), fullWhileOneInserts(), fullTape()};
    }

    private static ModalKeys filled(String line) {
        ModalKeys x = Hand.after("kept line", "wmbx2~");
        x.price(0, 3);
        x.image();
        x.price(0, 5);
        x.price(4, 7);
        Hand.tell(x, line);
        Hand.strike(x, "$mc0malxPrZxu");
        Hand.write(x, 1, 0, "abcdefghijklmnopqrstuvwx");
        x.sheet(2, 1, 0);
        Hand.write(x, 3, 3, "dwx3q");
        x.item(3, 3, 4, 31);
        Hand.tape(x, "tape");
        return x;
    }
}
