import java.util.Arrays;

/**
 * A paper tape of a five-bit teleprinter code with letter and figure shifts.
 *
 * <p>Every row that a call needs is made once, with the object, and used again by later calls: no call makes an
 * object of its own.
 */
public final class TeleprinterTape {
    public static final int NO_SUCH_INDEX = -1;
    public static final int BAD_VALUE = -2;
    public static final int NOT_POSSIBLE = -3;
    public static final int FULL = -4;
    public static final int NONE = -9;

    private static final int LETTERS = 0;
    private static final int FIGURES = 1;
    private static final int EITHER = 2;

    private static final int MOST_CODES = 96;
    private static final int MOST_CHARACTERS = 60;
    private static final int MOST_REMEMBERED = 14;
    private static final int MOST_OBSERVATIONS = 6;
    private static final int MOST_COMMANDS = 4;
    private static final int MOST_STEPS = 60;
    private static final int MOST_SHIFTS = 9;
    private static final int LARGEST_CHARACTER = 255;
    private static final int BITS = 5;
    private static final int SLOTS = 2;
    private static final int LEAST_WIDTH = 5;
    private static final int FIRST_WIDTH = 20;
    private static final int LARGEST_WIDTH = 40;

    private final Tape tape = new Tape();
    private final Tape copy = new Tape();
    private final Puncher puncher = new Puncher();
    private final Message message = new Message();
    private final History history = new History();
    private final Slots slots = new Slots();
    private final Text text = new Text();
    private final Text otherText = new Text();
    private final Page page = new Page();
    private final Observations observations = new Observations();
    private final Confidence confidence = new Confidence();
    private final Script program = new Script();

    public TeleprinterTape() {
    }

    // ---- message buffer

    public int append(int c) {
        if (!isWithin(c, 0, LARGEST_CHARACTER)) {
            return BAD_VALUE;
        }
        return message.add(c) ? message.count : FULL;
    }

    public int clearMessage() {
        int before = message.count;
        message.count = 0;
        return before;
    }

    public int errorPosition() {
        return message.firstNotEncodable();
    }

    // ---- reading the tape

    public int length() {
        return tape.count;
    }

    public int codeAt(int i) {
        return tape.has(i) ? tape.at(i) : NO_SUCH_INDEX;
    }

    public int caseAt(int i) {
        return tape.has(i) ? tape.caseBefore(i) : NO_SUCH_INDEX;
    }

    public int printedLength() {
        text.read(tape);
        return text.count;
    }

    public int printedAt(int i) {
        text.read(tape);
        return text.has(i) ? text.at(i) : NO_SUCH_INDEX;
    }

    // ---- actions

    public int punch(int code) {
        if (!isWithin(code, 0, Code.NULL)) {
            return BAD_VALUE;
        }
        if (tape.isFull()) {
            return FULL;
        }
        history.remember(tape);
        tape.add(code);
        return tape.count;
    }

    public int encodeMessage() {
        if (!message.isEncodable()) {
            return NOT_POSSIBLE;
        }
        puncher.beginBehind(tape);
        puncher.encodeRun(message, 0, message.count);
        return takePunched() ? tape.count : FULL;
    }

    public int encodeWrapped() {
        if (!message.isEncodable()) {
            return NOT_POSSIBLE;
        }
        puncher.beginBehind(tape);
        puncher.encodeWords(message, tape.width);
        return takePunched() ? tape.count : FULL;
    }

    public int remove(int i) {
        if (!tape.has(i)) {
            return NO_SUCH_INDEX;
        }
        history.remember(tape);
        return tape.takeOut(i);
    }

    public int flip(int i, int b) {
        if (!tape.has(i)) {
            return NO_SUCH_INDEX;
        }
        if (!isBit(b)) {
            return BAD_VALUE;
        }
        history.remember(tape);
        tape.turnBit(i, b);
        return tape.at(i);
    }

    public int compact() {
        history.remember(tape);
        return tape.dropRedundant();
    }

    public int repair() {
        text.read(tape);
        if (!message.canBeReadFrom(tape, text.count)) {
            return NOT_POSSIBLE;
        }
        int before = tape.count;
        puncher.beginAnew(tape);
        puncher.punchRepaired(tape, message);
        return takePunched() ? tape.count - before : FULL;
    }

    public int setStartCase(int v) {
        if (!isWithin(v, 0, 1)) {
            return BAD_VALUE;
        }
        history.remember(tape);
        int before = tape.startCase;
        tape.startCase = v;
        return before;
    }

    public int setUnshiftOnSpace(int v) {
        if (!isWithin(v, 0, 1)) {
            return BAD_VALUE;
        }
        history.remember(tape);
        int before = tape.unshift;
        tape.unshift = v;
        return before;
    }

    public int setWidth(int w) {
        if (!isWithin(w, LEAST_WIDTH, LARGEST_WIDTH)) {
            return BAD_VALUE;
        }
        history.remember(tape);
        int before = tape.width;
        tape.width = w;
        return before;
    }

    public int undo() {
        return history.bringBack(tape) ? history.count : NOT_POSSIBLE;
    }

    // ---- the page

    public int cell(int row, int column) {
        if (!isWithin(row, 0, Page.ROWS - 1) || !isWithin(column, 0, tape.width - 1)) {
            return NO_SUCH_INDEX;
        }
        printPage();
        return page.at(row, column);
    }

    public int overstrikes() {
        printPage();
        return page.struckOver;
    }

    // ---- lost and corrupted codes

    public int damageIfLost(int i) {
        return tape.has(i) ? tape.lossDamage(i) : NO_SUCH_INDEX;
    }

    public int damageIfFlipped(int i, int b) {
        if (!tape.has(i)) {
            return NO_SUCH_INDEX;
        }
        if (!isBit(b)) {
            return BAD_VALUE;
        }
        copy.become(tape);
        copy.turnBit(i, b);
        return tape.differences(copy);
    }

    public int confidenceNumerator(int i, int x) {
        int error = reckonConfidence(i, x);
        return error < 0 ? error : (int) confidence.numerator;
    }

    public int confidenceDenominator(int i, int x) {
        int error = reckonConfidence(i, x);
        return error < 0 ? error : (int) confidence.denominator;
    }

    // ---- scripts, observations, noise

    public int runScript(int n, long script) {
        if (!isWithin(n, 1, MOST_COMMANDS) || !program.split(n, script)) {
            return BAD_VALUE;
        }
        copy.become(tape);
        return program.firstFailure(copy, text);
    }

    public int observe(int i, int c) {
        if (!isWithin(i, 0, MOST_CODES - 1) || !isWithin(c, 0, LARGEST_CHARACTER)) {
            return BAD_VALUE;
        }
        observations.keep(i, c);
        return observations.count;
    }

    public int possibleSettings() {
        int possible = 0;
        copy.become(tape);
        for (int setting = 0; setting < 4; setting++) {
            copy.startCase = setting & 1;
            copy.unshift = setting >> 1;
            text.read(copy);
            if (observations.holdFor(text)) {
                possible |= 1 << setting;
            }
        }
        return possible;
    }

    public int noise(long seed, int m) {
        if (!isWithin(m, 1, MOST_STEPS)) {
            return BAD_VALUE;
        }
        copy.become(tape);
        copy.disturb(seed, m);
        return tape.differences(copy);
    }

    // ---- save slots

    public int save(int slot) {
        if (!slots.has(slot)) {
            return NO_SUCH_INDEX;
        }
        slots.keep(slot, tape);
        return tape.count;
    }

    public int restore(int slot) {
        if (!slots.has(slot)) {
            return NO_SUCH_INDEX;
        }
        if (!slots.bringBack(slot, tape)) {
            return NOT_POSSIBLE;
        }
        history.forgetAll();
        return tape.count;
    }

    public int editDistance(int slot) {
        if (!slots.has(slot)) {
            return NO_SUCH_INDEX;
        }
        if (!slots.bringBack(slot, copy)) {
            return NOT_POSSIBLE;
        }
        text.read(tape);
        otherText.read(copy);
        return text.distanceTo(otherText);
    }

    // ---- shared by several calls

    private static boolean isWithin(int value, int least, int largest) {
        return value >= least && value <= largest;
    }

    private static boolean isBit(int b) {
        return isWithin(b, 0, BITS - 1);
    }

    /** Makes the punched tape the present one, as an action, unless it ran out of space. */
    private boolean takePunched() {
        if (puncher.ranOut) {
            return false;
        }
        history.remember(tape);
        tape.become(puncher.target);
        return true;
    }

    private void printPage() {
        text.read(tape);
        page.print(text, tape.width);
    }

    /** Answers 0, or the error of a question for the confidence. */
    private int reckonConfidence(int i, int x) {
        if (!tape.has(i)) {
            return NO_SUCH_INDEX;
        }
        if (!isWithin(x, 0, Confidence.TENTHS)) {
            return BAD_VALUE;
        }
        return confidence.reckon(tape, i, x) ? 0 : NOT_POSSIBLE;
    }

    /** The code table: what a code prints and does, and which code prints a character. */
    private static final class Code {
        static final int SPACE = 26;
        static final int LINE_FEED = 27;
        static final int CARRIAGE_RETURN = 28;
        static final int TO_FIGURES = 29;
        static final int TO_LETTERS = 30;
        static final int NULL = 31;
        static final int NOTHING = -1;

        private static final String LETTER_SIGNS = "ABCDEFGHIJKLMNOPQRSTUVWXYZ";
        private static final String FIGURE_SIGNS = "0123456789-?:().,/='+!&%;$";

        private Code() {
        }

        static boolean dependsOnCase(int code) {
            return code >= 0 && code < SPACE;
        }

        static boolean isShift(int code) {
            return code == TO_FIGURES || code == TO_LETTERS;
        }

        static int shiftTo(int wanted) {
            return wanted == FIGURES ? TO_FIGURES : TO_LETTERS;
        }

        static int caseAfter(int code, int present, int unshift) {
            switch (code) {
                case TO_FIGURES:
                    return FIGURES;
                case TO_LETTERS:
                    return LETTERS;
                case SPACE:
                    return unshift == 1 ? LETTERS : present;
                default:
                    return present;
            }
        }

        static int printed(int code, int present) {
            if (dependsOnCase(code)) {
                return present == FIGURES ? FIGURE_SIGNS.charAt(code) : LETTER_SIGNS.charAt(code);
            }
            switch (code) {
                case SPACE:
                    return ' ';
                case LINE_FEED:
                    return '\n';
                case CARRIAGE_RETURN:
                    return '\r';
                default:
                    return NOTHING;
            }
        }

        /** The code that prints the character, or NOTHING if it is not encodable. */
        static int of(int character) {
            switch (character) {
                case ' ':
                    return SPACE;
                case '\n':
                    return LINE_FEED;
                case '\r':
                    return CARRIAGE_RETURN;
                default:
                    int letter = LETTER_SIGNS.indexOf((char) character);
                    return letter >= 0 ? letter : FIGURE_SIGNS.indexOf((char) character);
            }
        }

        /** The only case that prints the character, or EITHER. */
        static int caseFor(int character) {
            if (LETTER_SIGNS.indexOf((char) character) >= 0) {
                return LETTERS;
            }
            return FIGURE_SIGNS.indexOf((char) character) >= 0 ? FIGURES : EITHER;
        }
    }

    /** One state of the document: the codes, and the settings that belong to them. */
    private static final class Tape {
        private final int[] codes = new int[MOST_CODES];
        private int count = 0;
        private int startCase = LETTERS;
        private int unshift = 0;
        private int width = FIRST_WIDTH;

        void become(Tape other) {
            System.arraycopy(other.codes, 0, codes, 0, other.count);
            count = other.count;
            takeSettings(other);
        }

        void takeSettings(Tape other) {
            startCase = other.startCase;
            unshift = other.unshift;
            width = other.width;
        }

        boolean has(int i) {
            return i >= 0 && i < count;
        }

        boolean isFull() {
            return count >= MOST_CODES;
        }

        int at(int i) {
            return has(i) ? codes[i] : Code.NULL;
        }

        boolean add(int code) {
            if (count >= MOST_CODES) {
                return false;
            }
            codes[count] = code;
            count++;
            return true;
        }

        int takeOut(int i) {
            if (!has(i)) {
                return NO_SUCH_INDEX;
            }
            int code = codes[i];
            System.arraycopy(codes, i + 1, codes, i, count - i - 1);
            count--;
            return code;
        }

        void turnBit(int i, int b) {
            if (has(i)) {
                codes[i] ^= 1 << b;
            }
        }

        int caseAfter(int code, int present) {
            return Code.caseAfter(code, present, unshift);
        }

        int caseBefore(int i) {
            int present = startCase;
            for (int j = 0; j < i && j < count; j++) {
                present = caseAfter(codes[j], present);
            }
            return present;
        }

        int lossDamage(int i) {
            int without = caseBefore(i);
            int with = caseAfter(at(i), without);
            int damage = 0;
            // once both cases agree they agree for good
            for (int j = i + 1; j < count && with != without; j++) {
                if (Code.dependsOnCase(codes[j])) {
                    damage++;
                }
                with = caseAfter(codes[j], with);
                without = caseAfter(codes[j], without);
            }
            return damage;
        }

        /** The number of indexes that print something else on a tape with as many codes. */
        int differences(Tape other) {
            int mine = startCase;
            int others = other.startCase;
            int different = 0;
            for (int j = 0; j < count && j < other.count; j++) {
                if (Code.printed(codes[j], mine) != Code.printed(other.codes[j], others)) {
                    different++;
                }
                mine = caseAfter(codes[j], mine);
                others = other.caseAfter(other.codes[j], others);
            }
            return different;
        }

        int dropRedundant() {
            int before = count;
            int i = 0;
            // each step either passes a code or removes one, so there are as many steps as codes
            for (int step = 0; step < before; step++) {
                if (isRedundant(i)) {
                    takeOut(i);
                } else {
                    i++;
                }
            }
            return before - count;
        }

        // A code of 0 to 25 prints another character in each case: no damage means the same printed text.
        private boolean isRedundant(int i) {
            int code = at(i);
            return has(i) && (code == Code.NULL || Code.isShift(code)) && lossDamage(i) == 0;
        }

        void disturb(long seed, int steps) {
            long x = seed;
            for (int step = 0; step < steps && count > 0; step++) {
                x = x * 6364136223846793005L + 1442695040888963407L;
                int v = (int) (x >>> 33);
                turnBit(v % count, v / MOST_CODES % BITS);
            }
        }
    }

    /** The message buffer. */
    private static final class Message {
        private final int[] characters = new int[MOST_CHARACTERS];
        private int count = 0;

        boolean add(int character) {
            if (count >= MOST_CHARACTERS) {
                return false;
            }
            characters[count] = character;
            count++;
            return true;
        }

        int at(int i) {
            return i >= 0 && i < count ? characters[i] : 0;
        }

        int firstNotEncodable() {
            for (int i = 0; i < count; i++) {
                if (Code.of(characters[i]) == Code.NOTHING) {
                    return i;
                }
            }
            return NONE;
        }

        boolean isEncodable() {
            return firstNotEncodable() == NONE;
        }

        /** Whether i is outside of every word: at a separator or beyond the ends of the message. */
        boolean isBetweenWords(int i) {
            if (i < 0 || i >= count) {
                return true;
            }
            int character = characters[i];
            return character == ' ' || character == '\n' || character == '\r';
        }

        boolean beginsWord(int i) {
            return !isBetweenWords(i) && isBetweenWords(i - 1);
        }

        int endOfWord(int from) {
            int end = from;
            while (end < count && !isBetweenWords(end)) {
                end++;
            }
            return end;
        }

        /** Whether the tape, which prints so many characters, prints this message under suitable shifts. */
        boolean canBeReadFrom(Tape tape, int printed) {
            if (printed != count) {
                return false;
            }
            int next = 0;
            for (int i = 0; i < tape.count; i++) {
                int code = tape.at(i);
                if (Code.printed(code, LETTERS) == Code.NOTHING) {
                    continue;
                }
                if (Code.of(at(next)) != code) {
                    return false;
                }
                next++;
            }
            return true;
        }
    }

    /** Punches a tape code by code and knows the decoder's case behind the last one. */
    private static final class Puncher {
        private final Tape target = new Tape();
        private int present = LETTERS;
        private boolean ranOut = false;

        void beginBehind(Tape tape) {
            target.become(tape);
            present = tape.caseBefore(tape.count);
            ranOut = false;
        }

        void beginAnew(Tape tape) {
            target.takeSettings(tape);
            target.count = 0;
            present = tape.startCase;
            ranOut = false;
        }

        private void put(int code) {
            if (!target.add(code)) {
                ranOut = true;
            }
            present = Code.caseAfter(code, present, target.unshift);
        }

        private void shiftFor(int character) {
            int wanted = Code.caseFor(character);
            if (wanted != EITHER && wanted != present) {
                put(Code.shiftTo(wanted));
            }
        }

        private void encode(int character) {
            shiftFor(character);
            put(Code.of(character));
        }

        void encodeRun(Message message, int from, int end) {
            for (int i = from; i < end && i < message.count; i++) {
                encode(message.at(i));
            }
        }

        void encodeWords(Message message, int width) {
            int used = 0;
            for (int i = 0; i < message.count; i++) {
                if (message.beginsWord(i)) {
                    int end = message.endOfWord(i);
                    used = placeWord(used, end - i, width);
                    encodeRun(message, i, end);
                }
            }
        }

        /** Punches what stands before a word, and answers how long its line is with it. */
        private int placeWord(int used, int size, int width) {
            if (used == 0) {
                return size;
            }
            if (used + 1 + size <= width) {
                encode(' ');
                return used + 1 + size;
            }
            put(Code.CARRIAGE_RETURN);
            put(Code.LINE_FEED);
            put(Code.TO_LETTERS);
            return size;
        }

        /** Punches the codes of a tape that can be read as the message, with the shifts that it lacks. */
        void punchRepaired(Tape tape, Message message) {
            int next = 0;
            for (int i = 0; i < tape.count; i++) {
                int code = tape.at(i);
                if (Code.printed(code, LETTERS) != Code.NOTHING) {
                    shiftFor(message.at(next));
                    next++;
                }
                put(code);
            }
        }
    }

    /** The states before the last actions, in a ring. */
    private static final class History {
        private final Tape[] states = new Tape[MOST_REMEMBERED];
        private int next = 0;
        private int count = 0;

        History() {
            for (int i = 0; i < MOST_REMEMBERED; i++) {
                states[i] = new Tape();
            }
        }

        void remember(Tape tape) {
            Tape state = stateAt(next);
            if (state == null) {
                return;
            }
            state.become(tape);
            next = (next + 1) % MOST_REMEMBERED;
            count = Math.min(count + 1, MOST_REMEMBERED);
        }

        boolean bringBack(Tape tape) {
            int last = (next + MOST_REMEMBERED - 1) % MOST_REMEMBERED;
            Tape state = stateAt(last);
            if (count == 0 || state == null) {
                return false;
            }
            next = last;
            count--;
            tape.become(state);
            return true;
        }

        private Tape stateAt(int place) {
            return place >= 0 && place < states.length ? states[place] : null;
        }

        void forgetAll() {
            count = 0;
        }
    }

    /** The save slots. */
    private static final class Slots {
        private final Tape[] states = new Tape[SLOTS];
        private final boolean[] used = new boolean[SLOTS];

        Slots() {
            for (int i = 0; i < SLOTS; i++) {
                states[i] = new Tape();
            }
        }

        boolean has(int slot) {
            return slot >= 0 && slot < SLOTS;
        }

        void keep(int slot, Tape tape) {
            if (has(slot) && states[slot] != null) {
                states[slot].become(tape);
                used[slot] = true;
            }
        }

        boolean bringBack(int slot, Tape tape) {
            if (!has(slot) || !used[slot] || states[slot] == null) {
                return false;
            }
            tape.become(states[slot]);
            return true;
        }
    }

    /** The printed text of a tape. */
    private static final class Text {
        private final int[] characters = new int[MOST_CODES];
        private final int[] distances = new int[MOST_CODES + 1];
        private int count = 0;

        void read(Tape tape) {
            int present = tape.startCase;
            count = 0;
            for (int i = 0; i < tape.count; i++) {
                int code = tape.at(i);
                int character = Code.printed(code, present);
                if (character != Code.NOTHING && count < MOST_CODES) {
                    characters[count] = character;
                    count++;
                }
                present = tape.caseAfter(code, present);
            }
        }

        boolean has(int i) {
            return i >= 0 && i < count;
        }

        int at(int i) {
            return has(i) ? characters[i] : Code.NOTHING;
        }

        /** The Levenshtein distance, with one row of the table kept at a time. */
        int distanceTo(Text other) {
            for (int j = 0; j <= other.count; j++) {
                distances[j] = j;
            }
            for (int i = 0; i < count; i++) {
                nextDistances(i, other);
            }
            return distances[other.count];
        }

        private void nextDistances(int i, Text other) {
            int diagonal = distances[0];
            distances[0] = i + 1;
            for (int j = 1; j <= other.count; j++) {
                int above = distances[j];
                int replaced = characters[i] == other.characters[j - 1] ? diagonal : diagonal + 1;
                distances[j] = Math.min(replaced, Math.min(above, distances[j - 1]) + 1);
                diagonal = above;
            }
        }
    }

    /** The page printer. Its rows have the largest width; a narrower page leaves their ends empty. */
    private static final class Page {
        static final int ROWS = 8;
        private static final int EMPTY = 0;

        private final int[] cells = new int[ROWS * LARGEST_WIDTH];
        private int row = 0;
        private int column = 0;
        private int struckOver = 0;

        void print(Text text, int width) {
            Arrays.fill(cells, EMPTY);
            row = 0;
            column = 0;
            struckOver = 0;
            for (int i = 0; i < text.count; i++) {
                printCharacter(text.at(i), width);
            }
        }

        int at(int atRow, int atColumn) {
            int place = atRow * LARGEST_WIDTH + atColumn;
            return place >= 0 && place < cells.length ? cells[place] : EMPTY;
        }

        private void printCharacter(int character, int width) {
            if (character == '\r') {
                column = 0;
            } else if (character == '\n') {
                feedLine();
            } else {
                strike(character);
                column = Math.min(column + 1, width - 1);
            }
        }

        private void feedLine() {
            if (row < ROWS - 1) {
                row++;
                return;
            }
            int last = cells.length - LARGEST_WIDTH;
            System.arraycopy(cells, LARGEST_WIDTH, cells, 0, last);
            for (int i = last; i < cells.length; i++) {
                cells[i] = EMPTY;
            }
        }

        private void strike(int character) {
            int place = row * LARGEST_WIDTH + column;
            if (place < 0 || place >= cells.length) {
                return;
            }
            if (character != ' ' && cells[place] != ' ' && cells[place] != EMPTY) {
                struckOver++;
            }
            cells[place] = character;
        }
    }

    /** The last observations, in a ring. */
    private static final class Observations {
        private final int[] indexes = new int[MOST_OBSERVATIONS];
        private final int[] characters = new int[MOST_OBSERVATIONS];
        private int next = 0;
        private int count = 0;

        void keep(int i, int character) {
            if (next < 0 || next >= MOST_OBSERVATIONS) {
                return;
            }
            indexes[next] = i;
            characters[next] = character;
            next = (next + 1) % MOST_OBSERVATIONS;
            count = Math.min(count + 1, MOST_OBSERVATIONS);
        }

        boolean holdFor(Text text) {
            for (int k = 0; k < count; k++) {
                if (!text.has(indexes[k]) || text.at(indexes[k]) != characters[k]) {
                    return false;
                }
            }
            return true;
        }
    }

    /** The probability that a code keeps its case, as a fraction in lowest terms. */
    private static final class Confidence {
        static final int TENTHS = 10;

        private long numerator = 0;
        private long denominator = 1;
        private long letters = 0;
        private long figures = 0;

        /** Answers false, and reckons nothing of use, if there are too many shift codes. */
        boolean reckon(Tape tape, int index, int lostTenths) {
            int shifts = 0;
            letters = tape.startCase == LETTERS ? 1 : 0;
            figures = 1 - letters;
            denominator = 1;
            for (int i = 0; i < index; i++) {
                int code = tape.at(i);
                if (Code.isShift(code)) {
                    shifts++;
                    if (shifts > MOST_SHIFTS) {
                        return false;
                    }
                    passShift(code, lostTenths);
                } else if (tape.caseAfter(code, FIGURES) == LETTERS) {
                    letters += figures;
                    figures = 0;
                }
            }
            numerator = tape.caseBefore(index) == FIGURES ? figures : letters;
            reduce();
            return true;
        }

        /** The weights grow tenfold with each shift, so that they stay whole numbers. */
        private void passShift(int code, int lostTenths) {
            denominator *= TENTHS;
            if (code == Code.TO_FIGURES) {
                figures = figures * TENTHS + letters * (TENTHS - lostTenths);
                letters *= lostTenths;
            } else {
                letters = letters * TENTHS + figures * (TENTHS - lostTenths);
                figures *= lostTenths;
            }
        }

        /** The denominator is a power of ten: only 2 and 5 can divide both. */
        private void reduce() {
            for (int k = 0; k < MOST_SHIFTS; k++) {
                if (numerator % 2 == 0 && denominator % 2 == 0) {
                    numerator /= 2;
                    denominator /= 2;
                }
                if (numerator % 5 == 0 && denominator % 5 == 0) {
                    numerator /= 5;
                    denominator /= 5;
                }
            }
        }
    }

    /** The commands of a script. */
    private static final class Script {
        private final int[] groups = new int[MOST_COMMANDS];
        private int count = 0;

        /** Answers false if the number is negative or has more digits than so many commands. */
        boolean split(int commands, long script) {
            if (script < 0 || commands > MOST_COMMANDS) {
                return false;
            }
            long rest = script;
            for (int k = commands - 1; k >= 0; k--) {
                groups[k] = (int) (rest % 1000);
                rest /= 1000;
            }
            count = commands;
            return rest == 0;
        }

        int firstFailure(Tape copy, Text text) {
            for (int k = 0; k < count && k < groups.length; k++) {
                if (!succeeds(groups[k], copy, text)) {
                    return k;
                }
            }
            return NONE;
        }

        private static boolean succeeds(int group, Tape copy, Text text) {
            int value = group % 100;
            text.read(copy);
            switch (group / 100) {
                case 1:
                    return value <= Code.NULL && copy.add(value);
                case 2:
                    return copy.takeOut(value) != NO_SUCH_INDEX;
                case 3:
                    return setsOption(copy, value);
                case 4:
                    return setsStartCase(copy, value);
                case 5:
                    return text.count == value;
                case 6:
                    return copy.has(value) && copy.caseBefore(value) == FIGURES;
                case 7:
                    return text.count > 0 && text.at(text.count - 1) == value;
                default:
                    return false;
            }
        }

        private static boolean setsOption(Tape copy, int value) {
            if (value > 1) {
                return false;
            }
            copy.unshift = value;
            return true;
        }

        private static boolean setsStartCase(Tape copy, int value) {
            if (value > 1) {
                return false;
            }
            copy.startCase = value;
            return true;
        }
    }
}
