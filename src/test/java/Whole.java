/** All calls of the face once more, over the model of keys and the machine's own arrays. */
final class Whole {
    Model desk = new Model();
    private Model kept = null;
    private String tape = "";
    final Machine machine = new Machine();

    private static boolean within(int v, int from, int to) {
        return v >= from && v <= to;
    }

    private static int at(String row, int k) {
        return within(k, 0, row.length() - 1) ? row.charAt(k) : ModalKeys.BAD;
    }

    int type(int letter) {
        if (!within(letter, 32, 126)) {
            return ModalKeys.BAD;
        }
        if (tape.length() == 60) {
            return ModalKeys.FULL;
        }
        tape += (char) letter;
        return tape.length();
    }

    int line() {
        desk.tell(tape);
        tape = "";
        return desk.line.length();
    }

    int letter(int k) {
        return at(desk.line, k);
    }

    int store(int k) {
        return at(desk.store, k);
    }

    int mark(int k) {
        if (!within(k, 0, 3)) {
            return ModalKeys.BAD;
        }
        return desk.marks[k] == null ? ModalKeys.NONE : desk.marks[k];
    }

    int count(int what) {
        return within(what, 0, 8) ? desk.counts()[what] : ModalKeys.BAD;
    }

    int key(int letter) {
        return within(letter, 32, 126) ? desk.key((char) letter) : ModalKeys.BAD;
    }

    int price(int motion, int v) {
        if (!within(motion, 0, 6) || !within(v, 1, 9)) {
            return ModalKeys.BAD;
        }
        int was = desk.prices[motion];
        desk.prices[motion] = v;
        return was == v ? ModalKeys.NOT : was;
    }

    int leads(int motion, int from) {
        boolean good = within(motion, 0, 6) && within(from, 0, desk.line.length());
        return good ? desk.lead(motion, from) : ModalKeys.BAD;
    }

    int steps(int place, int k) {
        if (k < -2 || !within(place, 0, desk.last())) {
            return ModalKeys.BAD;
        }
        String row = desk.cheapestRows()[place];
        if (k < 0) {
            return k == -1 ? row.length() : desk.priceOf(row);
        }
        return k < row.length() ? row.charAt(k) - '0' : ModalKeys.NONE;
    }

    int farthest(int what) {
        if (!within(what, 0, 1)) {
            return ModalKeys.BAD;
        }
        String[] rows = desk.cheapestRows();
        int far = 0;
        for (int p = 0; p < rows.length; p++) {
            far = desk.priceOf(rows[p]) > desk.priceOf(rows[far]) ? p : far;
        }
        return what == 0 ? desk.priceOf(rows[far]) : far;
    }

    int once(int place) {
        return within(place, 0, desk.last()) ? desk.setsAtOnce()[place] : ModalKeys.BAD;
    }

    int goes(int motion, int n) {
        return within(motion, 0, 6) && within(n, 1, 99) ? desk.wouldGo(motion, n) : ModalKeys.BAD;
    }

    int struck(int place, int n, int what) {
        if (!within(place, 0, desk.last()) || !within(n, 0, 4) || !within(what, 0, 1)) {
            return ModalKeys.BAD;
        }
        int above = desk.endsOfRows(n)[place];
        int below = (int) Math.pow(7, n);
        return (what == 0 ? above : below) / Model.commonDivisor(above, below);
    }

    int image() {
        kept = desk.copy();
        return 1;
    }

    int restore() {
        if (kept == null) {
            return ModalKeys.NONE;
        }
        desk = kept.copy();
        return 1;
    }

    int play(int sheet, int lane, int i, int n) {
        if (!Machine.areSheetAndLane(sheet, lane) || !within(n, 1, 24)) {
            return ModalKeys.BAD;
        }
        long[] keys = new long[n];
        int fault = machine.take(sheet, lane, i, keys);
        for (int k = 0; fault == 0 && k < n; k++) {
            fault = keys[k] < 32 || keys[k] > 126 ? ModalKeys.NOT : 0;
        }
        int failed = 0;
        for (int k = 0; fault == 0 && k < n; k++) {
            failed += desk.key((char) keys[k]) < 0 ? 1 : 0;
        }
        return fault == 0 ? failed : fault;
    }

    int film(int place, int n, int sheet, int lane, int i) {
        boolean good = Machine.areSheetAndLane(sheet, lane) && within(n, 1, 24) && within(place, 0, desk.line.length() - n);
        if (!good) {
            return ModalKeys.BAD;
        }
        long[] letters = desk.line.substring(place, place + n).chars().asLongStream().toArray();
        int fault = machine.give(sheet, lane, i, letters);
        return fault == 0 ? n : fault;
    }
}
