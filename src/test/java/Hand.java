/** A hand that works an object: lines and keys as texts. */
final class Hand {
    /** A class that never ends a row must fail a test, not keep it from ending. */
    private static final int MOST = 60;

    private Hand() {
    }

    static ModalKeys on(String line) {
        ModalKeys x = new ModalKeys();
        tell(x, line);
        return x;
    }

    static void tell(ModalKeys x, String line) {
        tape(x, line);
        x.line();
    }

    /** Types letters behind the tape; the answer of the last. */
    static int tape(ModalKeys x, String letters) {
        int answer = 0;
        for (int i = 0; i < letters.length(); i++) {
            answer = x.type(letters.charAt(i));
        }
        return answer;
    }

    /** Strikes keys one by one; the answer of the last. */
    static int strike(ModalKeys x, String keys) {
        int answer = 0;
        for (int i = 0; i < keys.length(); i++) {
            answer = x.key(keys.charAt(i));
        }
        return answer;
    }

    static ModalKeys after(String line, String keys) {
        ModalKeys x = on(line);
        strike(x, keys);
        return x;
    }

    static String lineOf(ModalKeys x) {
        StringBuilder b = new StringBuilder();
        for (int c = x.letter(0); c >= 0 && b.length() <= MOST; c = x.letter(b.length())) {
            b.append((char) c);
        }
        return b.toString();
    }

    static String storeOf(ModalKeys x) {
        StringBuilder b = new StringBuilder();
        for (int c = x.store(0); c >= 0 && b.length() <= MOST; c = x.store(b.length())) {
            b.append((char) c);
        }
        return b.toString();
    }

    static int cursor(ModalKeys x) {
        return x.count(1);
    }

    /** The line with the cursor's place ahead of a bar, and the store behind it: "abc|1|st". */
    static String look(ModalKeys x) {
        return lineOf(x) + "|" + cursor(x) + "|" + storeOf(x);
    }

    static String counts(ModalKeys x) {
        StringBuilder b = new StringBuilder();
        for (int what = 0; what <= 8; what++) {
            b.append(x.count(what)).append(' ');
        }
        return b.toString();
    }

    /** Puts a text as the items of a new row of a lane. */
    static void write(ModalKeys x, int sheet, int lane, String text) {
        x.sheet(sheet, lane, text.length());
        for (int i = 0; i < text.length(); i++) {
            x.item(sheet, lane, i, text.charAt(i));
        }
    }
}
