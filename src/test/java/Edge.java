import java.io.IOException;
import java.io.UncheckedIOException;
import java.nio.file.Files;
import java.nio.file.Path;
import java.util.List;

/** Tests of sentences that name a boundary: each bears its promise and its words, which must stand in the document. */
final class Edge {
    /** A call on an object, and its answer. */
    interface Call {
        int on(ModalKeys x);
    }

    private static final Path DOCUMENT = Path.of("..", "shared", "DOC.md");

    private final Check check;
    private final String document = oneLine(read());
    private String sentence = "";

    Edge(String name) {
        check = new Check(name);
    }

    void of(String promise, String words, Runnable test) {
        sentence = promise + " \"" + words + "\": ";
        check.holds(sentence + "no such words in the document", document.isEmpty() || document.contains(oneLine(words)));
        int made = check.made();
        test.run();
        check.holds(sentence + "has no test", check.made() > made);
    }

    void due(String call, long got, long want) {
        check.due(sentence + call, got, want);
    }

    void due(String call, String got, String want) {
        check.due(sentence + call, got, want);
    }

    void holds(String what, boolean so) {
        check.holds(sentence + what, so);
    }

    /** What keys make of a line: the line, the cursor, the store. */
    void makes(String line, String keys, String want) {
        due("\"" + line + "\" by " + keys, Hand.look(Hand.after(line, keys)), want);
    }

    void answers(String line, String keys, int want) {
        due("\"" + line + "\": the last of " + keys, Hand.strike(Hand.on(line), keys), want);
    }

    /** Where the cursor is after keys. */
    void stands(String line, String keys, int want) {
        due("\"" + line + "\": the cursor after " + keys, Hand.cursor(Hand.after(line, keys)), want);
    }

    void counts(String line, String keys, int what, int want) {
        due("\"" + line + "\" by " + keys + ": count(" + what + ")", Hand.after(line, keys).count(what), want);
    }

    /** The answer refuses the call, and nothing has changed by it. */
    void refused(String call, State state, Call made, int want) {
        due(state.name + ": " + call, made.on(state.make()), want);
        changesNothing(call, state, made);
    }

    void refusedEverywhere(String call, Call made, int want) {
        for (State state : State.everywhere()) {
            refused(call, state, made, want);
        }
    }

    void refusedWithSheets(String call, Call made, int want) {
        for (State state : State.withSheets()) {
            refused(call, state, made, want);
        }
    }

    void changesNothing(String call, State state, Call made) {
        List<String> differences = Twins.differences(state, made);
        holds(state.name + ": " + call + " changed " + differences, differences.isEmpty());
    }

    /** The last of the keys makes the command fail, and all is as ahead of its first one. */
    void fails(State state, String keys) {
        ModalKeys x = state.make();
        for (int i = 0; i < keys.length() - 1; i++) {
            due(state.name + ": " + keys.charAt(i) + " of " + keys, x.key(keys.charAt(i)), 1);
        }
        refused("the keys " + keys, state, y -> Hand.strike(y, keys), ModalKeys.NOT);
    }

    void fails(String line, String ahead, String keys) {
        fails(State.after(line, ahead), keys);
    }

    void end() {
        check.end();
    }

    /** Empty where there is no document: then the words can't be looked up, but what they ask is tested all the same. */
    private static String read() {
        try {
            return Files.isReadable(DOCUMENT) ? Files.readString(DOCUMENT) : "";
        } catch (IOException e) {
            throw new UncheckedIOException("the document can't be read", e);
        }
    }

    private static String oneLine(String text) {
        return text.replaceAll("\\s+", " ");
    }
}
