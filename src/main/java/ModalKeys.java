import java.util.Arrays;

/**
 * A kernel of keys that mean what stands ahead of them: a line of letters, a place in it, and keys
 * that together make deeds. ../shared/DOC.md says what each call answers.
 */
public final class ModalKeys {
    public static final int BAD = -1, NOT = -2, FULL = -3, NONE = -4, NULL = -11, CAST = -12, INDEX = -13, SIZE = -14;

    private static final int MOST_LETTERS = 60;
    private static final int FIRST_LETTER = 32;
    private static final int LAST_LETTER = 126;
    private static final int MARKS = 4;
    private static final int MOTIONS = 7;
    private static final int HIGHEST_PRICE = 9;
    private static final int MOST_TIMES = 99;
    private static final int MOST_STRUCK = 4;
    private static final int SHEETS = 4;
    private static final int LANES = 4;
    private static final int MOST_ITEMS = 24;
    private static final int NOWHERE = -1;

    private final int[] tape = new int[MOST_LETTERS];
    private int taped;
    private final Desk desk = new Desk();
    private final Desk kept = new Desk();
    private boolean hasImage;
    private final Ways ways = new Ways();
    private final Sheet[] sheets = new Sheet[SHEETS];

    public ModalKeys() {
        for (int i = 0; i < SHEETS; i++) {
            sheets[i] = new Sheet();
        }
    }

    // ---- 1 the line

    public int type(int letter) {
        if (!isLetter(letter)) {
            return BAD;
        }
        if (taped >= MOST_LETTERS) {
            return FULL;
        }
        tape[taped] = letter;
        taped++;
        return taped;
    }

    public int line() {
        desk.begin(tape, taped);
        taped = 0;
        return desk.text.length;
    }

    public int letter(int k) {
        return desk.text.has(k) ? desk.text.at(k) : BAD;
    }

    public int store(int k) {
        return k >= 0 && k < desk.storedLength ? desk.stored[k] : BAD;
    }

    public int mark(int k) {
        if (k < 0 || k >= MARKS) {
            return BAD;
        }
        return desk.marks[k] == NOWHERE ? NONE : desk.marks[k];
    }

    public int count(int what) {
        switch (what) {
            case 0: return desk.text.length;
            case 1: return desk.text.cursor;
            case 2: return desk.typing ? 1 : 0;
            case 3: return desk.isPending() ? 1 : 0;
            case 4: return desk.storedLength;
            case 5: return desk.markSet();
            case 6: return desk.past.size;
            case 7: return desk.text.words();
            case 8: return desk.latest.size;
            default: return BAD;
        }
    }

    // ---- keys

    public int key(int letter) {
        return isLetter(letter) ? desk.press(letter) : BAD;
    }

    public int price(int motion, int v) {
        if (!isMotion(motion) || v < 1 || v > HIGHEST_PRICE) {
            return BAD;
        }
        int was = desk.prices[motion];
        if (was == v) {
            return NOT;
        }
        desk.prices[motion] = v;
        return was;
    }

    // ---- 2 foretold

    public int leads(int motion, int from) {
        if (!isMotion(motion) || from < 0 || from > desk.text.length) {
            return BAD;
        }
        return desk.text.lead(motion, from);
    }

    public int steps(int place, int k) {
        if (k < -2 || !desk.text.canStand(place)) {
            return BAD;
        }
        ways.survey(desk.text);
        ways.reckon(place, true, desk.prices);
        if (k == -2) {
            return ways.cost[desk.text.standing()];
        }
        return ways.stepOf(desk.text.standing(), place, k, desk.prices);
    }

    public int farthest(int what) {
        if (what != 0 && what != 1) {
            return BAD;
        }
        ways.survey(desk.text);
        ways.reckon(desk.text.standing(), false, desk.prices);
        int place = ways.dearest();
        return what == 0 ? ways.cost[place] : place;
    }

    public int once(int place) {
        if (!desk.text.canStand(place)) {
            return BAD;
        }
        int set = 0;
        for (int motion = 0; motion < MOTIONS; motion++) {
            if (desk.text.deed(motion, desk.text.standing()) == place) {
                set |= 1 << motion;
            }
        }
        return set;
    }

    public int goes(int motion, int n) {
        if (!isMotion(motion) || n < 1 || n > MOST_TIMES) {
            return BAD;
        }
        desk.aimByMotion(motion, n, 0);
        return desk.to - desk.from;
    }

    public int struck(int place, int n, int what) {
        boolean asked = n >= 0 && n <= MOST_STRUCK && (what == 0 || what == 1);
        if (!asked || !desk.text.canStand(place)) {
            return BAD;
        }
        ways.survey(desk.text);
        int above = ways.rowsTo(place, desk.text.standing(), n);
        int below = 1;
        for (int i = 0; i < n; i++) {
            // 7 is prime, so this alone brings the fraction to its lowest terms.
            if (above % MOTIONS == 0) {
                above /= MOTIONS;
            } else {
                below *= MOTIONS;
            }
        }
        return what == 0 ? above : below;
    }

    public int image() {
        kept.become(desk);
        hasImage = true;
        return 1;
    }

    public int restore() {
        if (!hasImage) {
            return NONE;
        }
        desk.become(kept);
        return 1;
    }

    // ---- 3 sheets

    public int play(int sheet, int lane, int i, int n) {
        Sheet row = sheetAt(sheet);
        if (row == null || !isLane(lane) || !isPortion(n)) {
            return BAD;
        }
        int fault = row.faultAs(lane, i, n);
        if (fault != 0) {
            return fault;
        }
        for (int k = i; k < i + n; k++) {
            if (row.items[k] < FIRST_LETTER || row.items[k] > LAST_LETTER) {
                return NOT;
            }
        }
        int failed = 0;
        for (int k = i; k < i + n; k++) {
            if (desk.press((int) row.items[k]) < 0) {
                failed++;
            }
        }
        return failed;
    }

    public int film(int place, int n, int sheet, int lane, int i) {
        Sheet row = sheetAt(sheet);
        if (row == null || !isLane(lane) || !isPortion(n) || place < 0 || place > desk.text.length - n) {
            return BAD;
        }
        int fault = row.faultAs(lane, i, n);
        if (fault != 0) {
            return fault;
        }
        for (int k = 0; k < n; k++) {
            row.put(i + k, desk.text.at(place + k));
        }
        return n;
    }

    public int sheet(int sheet, int lane, int n) {
        Sheet row = sheetAt(sheet);
        if (row == null || !isLane(lane) || n > MOST_ITEMS) {
            return BAD;
        }
        if (n < 0) {
            return SIZE;
        }
        row.hold(lane, n);
        return n;
    }

    public int drop(int sheet) {
        Sheet row = sheetAt(sheet);
        if (row == null) {
            return BAD;
        }
        if (row.isNothing()) {
            return NULL;
        }
        int had = row.size;
        row.hold(Sheet.NO_LANE, 0);
        return had;
    }

    public int item(int sheet, int lane, int i, long v) {
        Sheet row = sheetAt(sheet);
        if (row == null || !isLane(lane)) {
            return BAD;
        }
        int fault = row.faultAs(lane, i, 1);
        if (fault != 0) {
            return fault;
        }
        row.put(i, v);
        return 1;
    }

    public int copy(int from, int i, int to, int j, int n) {
        Sheet source = sheetAt(from);
        Sheet target = sheetAt(to);
        if (source == null || target == null) {
            return BAD;
        }
        if (source.isNothing() || target.isNothing()) {
            return NULL;
        }
        if (source.lane != target.lane) {
            return CAST;
        }
        if (!source.reaches(i, n) || !target.reaches(j, n)) {
            return INDEX;
        }
        System.arraycopy(source.items, i, target.items, j, n);
        return n;
    }

    private Sheet sheetAt(int number) {
        return number >= 0 && number < SHEETS ? sheets[number] : null;
    }

    private static boolean isLetter(int letter) {
        return letter >= FIRST_LETTER && letter <= LAST_LETTER;
    }

    private static boolean isMotion(int motion) {
        return motion >= 0 && motion < MOTIONS;
    }

    private static boolean isLane(int lane) {
        return lane >= 0 && lane < LANES;
    }

    private static boolean isPortion(int n) {
        return n >= 1 && n <= MOST_ITEMS;
    }

    /** THE LINE and THE CURSOR, kept together because undoing brings back both of them and nothing else. */
    private static final class Text {
        private static final int BLANK = 0, WORD = 1, SIGN = 2;

        private final int[] letters = new int[MOST_LETTERS];
        private int length;
        private int cursor;

        private void become(Text other) {
            System.arraycopy(other.letters, 0, letters, 0, MOST_LETTERS);
            length = other.length;
            cursor = other.cursor;
        }

        private boolean has(int p) {
            return p >= 0 && p < length;
        }

        private int at(int p) {
            return has(p) ? letters[p] : NOWHERE;
        }

        private int last() {
            return length > 0 ? length - 1 : 0;
        }

        private boolean canStand(int p) {
            return p >= 0 && p <= last();
        }

        /** Where what is foretold begins: who inserts may be one place farther than a motion starts. */
        private int standing() {
            return Math.min(cursor, last());
        }

        private void goTo(int p) {
            cursor = Math.min(p, last());
        }

        private int kindAt(int p) {
            if (p < 0 || p >= length) {
                return NOWHERE;
            }
            int c = letters[p];
            if (c == ' ') {
                return BLANK;
            }
            boolean small = c >= 'a' && c <= 'z';
            boolean great = c >= 'A' && c <= 'Z';
            boolean figure = c >= '0' && c <= '9';
            return small || great || figure ? WORD : SIGN;
        }

        /** The first place from p on that is of another kind. */
        private int behindKind(int p, int kind) {
            int q = p;
            while (q < length && kindAt(q) == kind) {
                q++;
            }
            return q;
        }

        /** The first place of the row of one kind that ends ahead of p. */
        private int beginOfKind(int p, int kind) {
            int q = p;
            while (q > 0 && kindAt(q - 1) == kind) {
                q--;
            }
            return q;
        }

        private int lead(int motion, int p) {
            switch (motion) {
                case 0: return Math.max(0, p - 1);
                case 1: return Math.min(length, p + 1);
                case 2: return 0;
                case 3: return last();
                case 4: {
                    int q = kindAt(p) == BLANK ? p : behindKind(p, kindAt(p));
                    return behindKind(q, BLANK);
                }
                case 5: {
                    int q = beginOfKind(p, BLANK);
                    return beginOfKind(q, kindAt(q - 1));
                }
                default: {
                    int q = behindKind(p + 1, BLANK);
                    return q < length ? behindKind(q, kindAt(q)) - 1 : last();
                }
            }
        }

        private int deed(int motion, int p) {
            return Math.min(lead(motion, p), last());
        }

        /** The n-th place behind p that has a letter. */
        private int findBehind(int p, int wanted, int n) {
            int found = 0;
            for (int q = p + 1; q < length; q++) {
                if (letters[q] == wanted) {
                    found++;
                }
                if (found == n) {
                    return q;
                }
            }
            return NOWHERE;
        }

        private int openingRound(int p) {
            int closed = 0;
            for (int q = p; q >= 0; q--) {
                if (at(q) == '(') {
                    if (closed == 0) {
                        return q;
                    }
                    closed--;
                } else if (at(q) == ')' && q != p) {
                    closed++;
                }
            }
            return NOWHERE;
        }

        private int closingOf(int opening) {
            int opened = 0;
            for (int q = opening + 1; q < length; q++) {
                if (at(q) == ')') {
                    if (opened == 0) {
                        return q;
                    }
                    opened--;
                } else if (at(q) == '(') {
                    opened++;
                }
            }
            return NOWHERE;
        }

        private int words() {
            int words = 0;
            for (int p = 0; p < length; p++) {
                if (kindAt(p) == WORD && kindAt(p - 1) != WORD) {
                    words++;
                }
            }
            return words;
        }

        private void takeOut(int from, int to) {
            System.arraycopy(letters, to, letters, from, length - to);
            length -= to - from;
        }

        private void makeRoom(int p, int n) {
            System.arraycopy(letters, p, letters, p + n, length - p);
            length += n;
        }

        private void swapCase(int p) {
            int c = letters[p];
            if (c >= 'a' && c <= 'z') {
                letters[p] = c - 'a' + 'A';
            } else if (c >= 'A' && c <= 'Z') {
                letters[p] = c - 'A' + 'a';
            }
        }
    }

    /** What can be undone: a ring of the latest texts, in rows that are used again. */
    private static final class Past {
        private static final int MOST = 8;

        private final int[] letters = new int[MOST * MOST_LETTERS];
        private final int[] lengths = new int[MOST];
        private final int[] cursors = new int[MOST];
        private int next;
        private int size;

        private void become(Past other) {
            System.arraycopy(other.letters, 0, letters, 0, letters.length);
            System.arraycopy(other.lengths, 0, lengths, 0, MOST);
            System.arraycopy(other.cursors, 0, cursors, 0, MOST);
            next = other.next;
            size = other.size;
        }

        private void keep(Text text) {
            System.arraycopy(text.letters, 0, letters, next * MOST_LETTERS, MOST_LETTERS);
            lengths[next] = text.length;
            cursors[next] = text.cursor;
            next = (next + 1) % MOST;
            size = Math.min(size + 1, MOST);
        }

        private boolean bringBack(Text text, int n) {
            if (size == 0) {
                return false;
            }
            int undone = Math.min(n, size);
            next = Math.floorMod(next - undone, MOST);
            size -= undone;
            System.arraycopy(letters, next * MOST_LETTERS, text.letters, 0, MOST_LETTERS);
            text.length = lengths[next];
            text.cursor = cursors[next];
            return true;
        }
    }

    /** A row of KEYS; beyond 30 it only tells that there were too many. */
    private static final class KeyRow {
        private static final int MOST = 30;

        private final int[] keys = new int[MOST];
        private int size;

        private void become(KeyRow other) {
            System.arraycopy(other.keys, 0, keys, 0, MOST);
            size = other.size;
        }

        private void add(int struck) {
            if (size < MOST) {
                keys[size] = struck;
            }
            size = Math.min(size + 1, MOST + 1);
        }

        private boolean canBeRepeated() {
            return size > 0 && size <= MOST;
        }
    }

    /** A COMMAND as far as it has come: what its keys were, and what the next one may be. */
    private static final class Command {
        private static final int WAITS = 0, WHOLE = 1, WRONG = 2;
        private static final int AT_VERB = 0, AT_REACH = 1, AT_OBJECT = 2, AT_LETTER = 3, AT_MARK = 4;
        private static final int NO_REACH = 0, BY_MOTION = 1, BY_WORD = 2, BY_BRACKETS = 3, BY_LETTERS = 4, BY_ALL = 5;
        private static final int MOVE = 0;
        private static final int TO_END = 3, TO_WORD_END = 6, TO_LETTER = 7, UP_TO_LETTER = 8, TO_MARK = 9;

        private final KeyRow keys = new KeyRow();
        private int phase;
        private int verb;
        private int number;
        private int secondNumber;
        private int reach;
        private int motion;
        private boolean around;
        private int argument;

        private void clear() {
            keys.size = 0;
            phase = AT_VERB;
            verb = MOVE;
            number = 0;
            secondNumber = 0;
            reach = NO_REACH;
            motion = 0;
            around = false;
            argument = 0;
        }

        private void become(Command other) {
            keys.become(other.keys);
            phase = other.phase;
            verb = other.verb;
            number = other.number;
            secondNumber = other.secondNumber;
            reach = other.reach;
            motion = other.motion;
            around = other.around;
            argument = other.argument;
        }

        private int times() {
            return Math.min(Math.max(number, 1) * Math.max(secondNumber, 1), MOST_TIMES);
        }

        private int take(int struck) {
            keys.add(struck);
            switch (phase) {
                case AT_VERB: return takeVerb(struck);
                case AT_REACH: return takeReach(struck);
                case AT_OBJECT: return takeObject(struck);
                case AT_LETTER:
                    argument = struck;
                    return WHOLE;
                default:
                    argument = struck - 'a';
                    return argument >= 0 && argument < MARKS ? WHOLE : WRONG;
            }
        }

        private int takeVerb(int struck) {
            if (isFigure(struck, number)) {
                number = withFigure(number, struck);
                return WAITS;
            }
            switch (struck) {
                case 'd': case 'y': case 'c': return waitWith(struck, AT_REACH);
                case 'r': return waitWith(struck, AT_LETTER);
                case 'm': return waitWith(struck, AT_MARK);
                case 'x':
                    verb = 'd';
                    reach = BY_LETTERS;
                    return WHOLE;
                case '~': case 'p': case 'P':
                case 'i': case 'a': case 'I': case 'A': case 'u':
                    verb = struck;
                    return WHOLE;
                default: return takeMotion(struck);
            }
        }

        private int waitWith(int newVerb, int newPhase) {
            verb = newVerb;
            phase = newPhase;
            return WAITS;
        }

        private int takeReach(int struck) {
            if (isFigure(struck, secondNumber)) {
                secondNumber = withFigure(secondNumber, struck);
                return WAITS;
            }
            if (struck == verb) {
                reach = BY_ALL;
                return WHOLE;
            }
            if (struck == 'i' || struck == 'a') {
                around = struck == 'a';
                phase = AT_OBJECT;
                return WAITS;
            }
            return takeMotion(struck);
        }

        private int takeObject(int struck) {
            if (struck != 'w' && struck != 'b') {
                return WRONG;
            }
            reach = struck == 'w' ? BY_WORD : BY_BRACKETS;
            return WHOLE;
        }

        private int takeMotion(int struck) {
            reach = BY_MOTION;
            motion = motionOf(struck);
            if (motion == NOWHERE) {
                return WRONG;
            }
            if (motion < MOTIONS) {
                return WHOLE;
            }
            phase = motion == TO_MARK ? AT_MARK : AT_LETTER;
            return WAITS;
        }

        private static int motionOf(int struck) {
            switch (struck) {
                case 'h': return 0;
                case 'l': return 1;
                case '0': return 2;
                case '$': return TO_END;
                case 'w': return 4;
                case 'b': return 5;
                case 'e': return TO_WORD_END;
                case 'f': return TO_LETTER;
                case 't': return UP_TO_LETTER;
                case '\'': return TO_MARK;
                default: return NOWHERE;
            }
        }

        private static boolean isFigure(int struck, int before) {
            // A number begins with 1 .. 9, so a 0 that nothing stands ahead of is the motion.
            return struck >= '1' && struck <= '9' || struck == '0' && before > 0;
        }

        private static int withFigure(int before, int struck) {
            return Math.min(before * 10 + struck - '0', MOST_TIMES);
        }
    }

    /** All that an IMAGE keeps, and the doing of COMMANDS upon it. */
    private static final class Desk {
        private static final int FAILED = 0, DONE = 1, CHANGED = 2, TYPES = 3;

        private final Text text = new Text();
        private final Text before = new Text();
        private final Past past = new Past();
        private final Command command = new Command();
        private final KeyRow latest = new KeyRow();
        private final int[] stored = new int[MOST_LETTERS];
        private int storedLength;
        private final int[] marks = {NOWHERE, NOWHERE, NOWHERE, NOWHERE};
        private final int[] prices = {1, 1, 1, 1, 1, 1, 1};
        private boolean typing;
        // Where the motion of the key at hand leads, and its range; no call finds them left from another.
        private int place;
        private int from;
        private int to;

        private void become(Desk other) {
            text.become(other.text);
            before.become(other.before);
            past.become(other.past);
            command.become(other.command);
            latest.become(other.latest);
            System.arraycopy(other.stored, 0, stored, 0, MOST_LETTERS);
            storedLength = other.storedLength;
            System.arraycopy(other.marks, 0, marks, 0, MARKS);
            System.arraycopy(other.prices, 0, prices, 0, MOTIONS);
            typing = other.typing;
        }

        /** A new line; only the prices outlive the one that was. */
        private void begin(int[] letters, int length) {
            System.arraycopy(letters, 0, text.letters, 0, length);
            text.length = length;
            text.cursor = 0;
            storedLength = 0;
            Arrays.fill(marks, NOWHERE);
            past.size = 0;
            latest.size = 0;
            command.clear();
            typing = false;
        }

        private boolean isPending() {
            return !typing && command.keys.size > 0;
        }

        private int markSet() {
            int set = 0;
            for (int k = 0; k < MARKS; k++) {
                if (marks[k] != NOWHERE) {
                    set |= 1 << k;
                }
            }
            return set;
        }

        private int press(int struck) {
            boolean repeats = struck == '.' && !typing && command.phase == Command.AT_VERB;
            if (!repeats) {
                return strike(struck, false);
            }
            command.clear();
            if (!latest.canBeRepeated()) {
                return NOT;
            }
            int answer = 0;
            // Once the deed fails, its other keys would be read as commands of their own.
            for (int k = 0; k < latest.size && answer != NOT; k++) {
                answer = strike(latest.keys[k], true);
            }
            return answer;
        }

        private int strike(int struck, boolean repeated) {
            if (typing) {
                return typeIn(struck, repeated);
            }
            int state = command.take(struck);
            if (state == Command.WAITS) {
                return 1;
            }
            before.become(text);
            int outcome = state == Command.WHOLE && aim() ? perform(command.times()) : FAILED;
            if (outcome == TYPES) {
                typing = true;
                return 2;
            }
            if (outcome == CHANGED) {
                remember(repeated);
            }
            command.clear();
            return outcome == FAILED ? NOT : 0;
        }

        private int typeIn(int struck, boolean repeated) {
            // A letter that finds the line full was struck all the same, so it is a key of the change.
            command.keys.add(struck);
            if (struck == '!') {
                typing = false;
                text.cursor = Math.max(0, text.cursor - 1);
                remember(repeated);
                command.clear();
                return 0;
            }
            if (text.length >= MOST_LETTERS) {
                return FULL;
            }
            text.makeRoom(text.cursor, 1);
            text.letters[text.cursor] = struck;
            text.cursor++;
            return 2;
        }

        private void remember(boolean repeated) {
            past.keep(before);
            if (!repeated) {
                latest.become(command.keys);
            }
        }

        private boolean aim() {
            switch (command.reach) {
                case Command.BY_MOTION: return aimByMotion(command.motion, command.times(), command.argument);
                case Command.BY_WORD: return aimByWord();
                case Command.BY_BRACKETS: return aimByBrackets();
                case Command.BY_LETTERS: return aimByLetters(command.times());
                case Command.BY_ALL:
                    from = 0;
                    to = text.length;
                    return true;
                default: return true;
            }
        }

        private boolean aimByMotion(int motion, int n, int argument) {
            int start = text.standing();
            place = start;
            if (motion == Command.TO_MARK) {
                place = placeOfMark(argument);
            } else if (motion >= MOTIONS) {
                place = text.findBehind(start, argument, n);
            } else {
                for (int i = 0; i < n; i++) {
                    place = text.lead(motion, place);
                }
            }
            if (place == NOWHERE) {
                return false;
            }
            if (motion == Command.UP_TO_LETTER) {
                place--;
            }
            from = Math.min(start, place);
            to = Math.min(text.length, Math.max(start, place) + (takesPlace(motion) ? 1 : 0));
            return true;
        }

        private static boolean takesPlace(int motion) {
            return motion == Command.TO_END || motion == Command.TO_WORD_END
                || motion == Command.TO_LETTER || motion == Command.UP_TO_LETTER;
        }

        private int placeOfMark(int k) {
            boolean isThere = k >= 0 && k < MARKS && marks[k] != NOWHERE;
            return isThere ? Math.min(marks[k], text.length) : NOWHERE;
        }

        private boolean aimByWord() {
            if (text.length == 0) {
                return false;
            }
            int kind = text.kindAt(text.cursor);
            from = text.beginOfKind(text.cursor, kind);
            to = text.behindKind(text.cursor, kind);
            if (command.around) {
                to = text.behindKind(to, Text.BLANK);
            }
            return true;
        }

        private boolean aimByBrackets() {
            int opening = text.openingRound(text.cursor);
            int closing = opening == NOWHERE ? NOWHERE : text.closingOf(opening);
            if (closing == NOWHERE) {
                return false;
            }
            from = command.around ? opening : opening + 1;
            to = command.around ? closing + 1 : closing;
            return true;
        }

        private boolean aimByLetters(int n) {
            from = text.cursor;
            to = Math.min(text.length, from + n);
            return text.length > 0;
        }

        private int perform(int n) {
            switch (command.verb) {
                case Command.MOVE:
                    text.goTo(place);
                    return DONE;
                case 'd': return cutRange();
                case 'y':
                    storeRange();
                    text.goTo(from);
                    return DONE;
                case 'c':
                    cutRange();
                    return typeAt(from);
                case 'r': return overwrite(n);
                case '~': return swapCases(n);
                case 'p': return putIn(n, Math.min(text.cursor + 1, text.length));
                case 'P': return putIn(n, text.cursor);
                case 'i': return typeAt(text.cursor);
                case 'a': return typeAt(Math.min(text.cursor + 1, text.length));
                case 'I': return typeAt(0);
                case 'A': return typeAt(text.length);
                case 'u': return past.bringBack(text, n) ? DONE : FAILED;
                case 'm': return setMark(command.argument);
                default: return FAILED;
            }
        }

        private void storeRange() {
            if (from < to) {
                storedLength = to - from;
                System.arraycopy(text.letters, from, stored, 0, storedLength);
            }
        }

        private int cutRange() {
            storeRange();
            boolean changes = from < to;
            if (changes) {
                text.takeOut(from, to);
            }
            text.goTo(from);
            return changes ? CHANGED : DONE;
        }

        private int overwrite(int n) {
            int end = text.cursor + n;
            if (end > text.length) {
                return FAILED;
            }
            for (int p = text.cursor; p < end; p++) {
                text.letters[p] = command.argument;
            }
            text.cursor = end - 1;
            return CHANGED;
        }

        private int swapCases(int n) {
            if (text.length == 0) {
                return FAILED;
            }
            int end = Math.min(text.length, text.cursor + n);
            for (int p = text.cursor; p < end; p++) {
                text.swapCase(p);
            }
            text.goTo(end);
            return CHANGED;
        }

        private int putIn(int n, int p) {
            int more = n * storedLength;
            if (more == 0 || more > MOST_LETTERS - text.length) {
                return FAILED;
            }
            text.makeRoom(p, more);
            for (int i = 0; i < n; i++) {
                System.arraycopy(stored, 0, text.letters, p + i * storedLength, storedLength);
            }
            text.cursor = p + more - 1;
            return CHANGED;
        }

        private int typeAt(int p) {
            text.cursor = p;
            return TYPES;
        }

        private int setMark(int k) {
            if (k < 0 || k >= MARKS) {
                return FAILED;
            }
            marks[k] = text.cursor;
            return DONE;
        }
    }

    /** Where MOTIONS as deeds lead from each place, and what follows from it; rows that are used again. */
    private static final class Ways {
        private static final int FAR = 1000000;

        private final int[][] leadsTo = new int[MOTIONS][MOST_LETTERS];
        private final int[] cost = new int[MOST_LETTERS];
        private final int[] rows = new int[MOST_LETTERS];
        private final int[] longerRows = new int[MOST_LETTERS];
        private int places;

        private void survey(Text text) {
            places = text.last() + 1;
            for (int motion = 0; motion < MOTIONS; motion++) {
                for (int p = 0; p < places; p++) {
                    leadsTo[motion][p] = text.deed(motion, p);
                }
            }
        }

        /** The least cost of coming from each place to the given one, or, if not towards it, from it to each. */
        private void reckon(int place, boolean towards, int[] prices) {
            Arrays.fill(cost, FAR);
            cost[place] = 0;
            boolean better = true;
            for (int round = 0; round < places && better; round++) {
                better = false;
                for (int p = 0; p < places; p++) {
                    for (int motion = 0; motion < MOTIONS; motion++) {
                        int q = leadsTo[motion][p];
                        int known = towards ? q : p;
                        int asked = towards ? p : q;
                        if (cost[known] + prices[motion] < cost[asked]) {
                            cost[asked] = cost[known] + prices[motion];
                            better = true;
                        }
                    }
                }
            }
        }

        /** The k-th step, by the cost towards the place; for -1 how many there are. */
        private int stepOf(int start, int place, int k, int[] prices) {
            int p = start;
            int taken = 0;
            // Each step brings it nearer, so no place is left twice.
            while (p != place && taken < places) {
                int motion = firstOnWay(p, prices);
                if (taken == k) {
                    return motion;
                }
                p = leadsTo[motion][p];
                taken++;
            }
            return k == -1 ? taken : NONE;
        }

        private int firstOnWay(int p, int[] prices) {
            int motion = 0;
            while (motion < MOTIONS - 1 && cost[leadsTo[motion][p]] + prices[motion] != cost[p]) {
                motion++;
            }
            return motion;
        }

        private int dearest() {
            int best = 0;
            for (int p = 1; p < places; p++) {
                if (cost[p] > cost[best]) {
                    best = p;
                }
            }
            return best;
        }

        /** How many rows of n motions come from a start to a place. */
        private int rowsTo(int place, int start, int n) {
            Arrays.fill(rows, 0);
            rows[start] = 1;
            for (int i = 0; i < n; i++) {
                Arrays.fill(longerRows, 0);
                for (int p = 0; p < places; p++) {
                    for (int motion = 0; motion < MOTIONS; motion++) {
                        longerRows[leadsTo[motion][p]] += rows[p];
                    }
                }
                System.arraycopy(longerRows, 0, rows, 0, MOST_LETTERS);
            }
            return rows[place];
        }
    }

    /** A sheet: nothing, or a row of a lane; its items stand in longs, cut to what the lane holds. */
    private static final class Sheet {
        private static final int NO_LANE = -1;

        private final long[] items = new long[MOST_ITEMS];
        private int lane = NO_LANE;
        private int size;

        private boolean isNothing() {
            return lane == NO_LANE;
        }

        private void hold(int newLane, int n) {
            lane = newLane;
            size = n;
            Arrays.fill(items, 0L);
        }

        private boolean reaches(int i, int n) {
            return i >= 0 && n >= 0 && i <= size - n;
        }

        /** What the machine would find at n items from i on, taken as a row of a lane; 0: nothing. */
        private int faultAs(int asLane, int i, int n) {
            if (isNothing()) {
                return NULL;
            }
            if (lane != asLane) {
                return CAST;
            }
            return reaches(i, n) ? 0 : INDEX;
        }

        private void put(int i, long v) {
            switch (lane) {
                case 0: items[i] = (byte) v; break;
                case 1: items[i] = (short) v; break;
                case 2: items[i] = (int) v; break;
                default: items[i] = v;
            }
        }
    }
}
