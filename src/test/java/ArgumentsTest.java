import java.util.LinkedHashSet;
import java.util.Set;

/**
 * The range behind each argument of the promises: the last values that are allowed and the first that are not, on both
 * sides; and which error comes first if several apply.
 */
public final class ArgumentsTest {
    private static final int[] TAPE_LENGTHS = {0, 1, 2, 95, 96};

    private ArgumentsTest() {
    }

    public static void main(String[] args) {
        messageBuffer();
        readingTheTape();
        actions();
        thePage();
        lostAndCorrupted();
        scripts();
        observationsAndNoise();
        slots();
        firstListedError();
        Run.finish();
    }

    // ---- the tools

    /** A call, with '#' for the argument that is looked at, in the situation that the calls before it make. */
    private record Question(String sentence, String before, String call) {
        Run situation() {
            return Run.of(sentence).calls(before);
        }

        void refuses(long value, String error) {
            situation().calls(call.replace("#", String.valueOf(value)) + " = " + error);
        }

        void allows(long value) {
            String asked = call.replace("#", String.valueOf(value));
            int got = situation().answer(asked);
            boolean good = got >= 0 || got == TeleprinterTape.NONE;
            Run.due(sentence, asked + " is allowed (" + got + "): 1", good ? 1 : 0, 1);
        }
    }

    /** An int argument from least to largest; nothing is allowed if least is greater than largest. */
    private static void range(String sentence, String before, String call, int least, int largest, String error) {
        Question question = new Question(sentence, before, call);
        for (long value : intsOutside(least, largest)) {
            question.refuses(value, error);
        }
        for (long value = least; value <= largest; value++) {
            question.allows(value);
        }
    }

    /** The neighbours of the range, the ends of int, and what falls into the range if its higher bits are cut off. */
    private static Set<Long> intsOutside(int least, int largest) {
        Set<Long> values = new LinkedHashSet<>();
        for (long distance : new long[] {0, 1, 2, 32, 64, 128, 256, 65536, 1L << 30, 1L << 31}) {
            values.add(least - distance);
            values.add(largest + distance);
            values.add(least + distance);
        }
        values.add((long) Integer.MIN_VALUE);
        values.add((long) Integer.MAX_VALUE);
        values.add((long) Integer.MAX_VALUE - 1);
        values.removeIf(value -> value >= least && value <= largest || value != value.intValue());
        return values;
    }

    private static void indexOnTheTape(String promise, String call) {
        for (int length : TAPE_LENGTHS) {
            String before = length == 0 ? "" : "punch(3) * " + length + " = " + length;
            range(promise + ", i: index on the tape, of " + length + " codes", before, call, 0, length - 1, "NO_SUCH_INDEX");
        }
    }

    // ---- the promises

    private static void messageBuffer() {
        range("Promise 2, c: character code, 0 to 255", "", "append(#)", 0, 255, "BAD_VALUE");
        range("Promise 2, c: 0 to 255, with 59 characters", "append(65) * 59", "append(#)", 0, 255, "BAD_VALUE");
    }

    private static void readingTheTape() {
        indexOnTheTape("Promise 6", "codeAt(#)");
        indexOnTheTape("Promise 7", "caseAt(#)");
        String sentence = "Promise 9, i: index in the printed text, of ";
        range(sentence + "0 characters, an empty tape", "", "printedAt(#)", 0, -1, "NO_SUCH_INDEX");
        range(sentence + "0 characters, a tape that prints nothing", "punch(29); punch(30); punch(31)", "printedAt(#)",
            0, -1, "NO_SUCH_INDEX");
        range(sentence + "2 characters, 5 codes", "punch(31); punch(1); punch(29); punch(26); punch(30)", "printedAt(#)",
            0, 1, "NO_SUCH_INDEX");
        range(sentence + "95 characters, 96 codes", "punch(1) * 95; punch(31)", "printedAt(#)", 0, 94, "NO_SUCH_INDEX");
        range(sentence + "96 characters", "punch(1) * 96", "printedAt(#)", 0, 95, "NO_SUCH_INDEX");
    }

    private static void actions() {
        range("Promise 10, code: 0 to 31", "", "punch(#)", 0, 31, "BAD_VALUE");
        range("Promise 10, code: 0 to 31, with 95 codes", "punch(3) * 95", "punch(#)", 0, 31, "BAD_VALUE");
        indexOnTheTape("Promise 13", "remove(#)");
        indexOnTheTape("Promise 14", "flip(#, 0)");
        indexOnTheTape("Promise 14", "flip(#, 4)");
        range("Promise 14, b: bit, 0 to 4", "punch(3)", "flip(0, #)", 0, 4, "BAD_VALUE");
        range("Promise 17, v: 0 or 1", "", "setStartCase(#)", 0, 1, "BAD_VALUE");
        range("Promise 17, v: 0 or 1, with figures", "setStartCase(1)", "setStartCase(#)", 0, 1, "BAD_VALUE");
        range("Promise 18, v: 1 for on, 0 for off", "", "setUnshiftOnSpace(#)", 0, 1, "BAD_VALUE");
        range("Promise 18, v: 1 for on, 0 for off, when on", "setUnshiftOnSpace(1)", "setUnshiftOnSpace(#)", 0, 1, "BAD_VALUE");
        range("Promise 19, w: 5 to 40", "", "setWidth(#)", 5, 40, "BAD_VALUE");
        range("Promise 19, w: 5 to 40, from the least", "setWidth(5)", "setWidth(#)", 5, 40, "BAD_VALUE");
        range("Promise 19, w: 5 to 40, from the largest", "setWidth(40)", "setWidth(#)", 5, 40, "BAD_VALUE");
    }

    private static void thePage() {
        range("Promise 21, row: 0 to 7, column 0", "punch(3)", "cell(#, 0)", 0, 7, "NO_SUCH_INDEX");
        range("Promise 21, row: 0 to 7, the last column", "punch(3)", "cell(#, 19)", 0, 7, "NO_SUCH_INDEX");
        for (int width : new int[] {5, 6, 20, 39, 40}) {
            String sentence = "Promise 21, column: 0 to width - 1, width " + width;
            range(sentence + ", row 0", "setWidth(" + width + ")", "cell(0, #)", 0, width - 1, "NO_SUCH_INDEX");
            range(sentence + ", row 7", "setWidth(" + width + ")", "cell(7, #)", 0, width - 1, "NO_SUCH_INDEX");
        }
        Run.of("Promise 21, a wrong row is not made good by the column, nor the other way round").calls("punch(0) * 3;"
            + "cell(-1, 40) = NO_SUCH_INDEX; cell(1, -20) = NO_SUCH_INDEX; cell(1, -40) = NO_SUCH_INDEX;"
            + "cell(8, -1) = NO_SUCH_INDEX; cell(8, -40) = NO_SUCH_INDEX; cell(-1, -1) = NO_SUCH_INDEX;"
            + "cell(8, 20) = NO_SUCH_INDEX; cell(107374182, 16) = NO_SUCH_INDEX");
    }

    private static void lostAndCorrupted() {
        indexOnTheTape("Promise 23", "damageIfLost(#)");
        indexOnTheTape("Promise 24", "damageIfFlipped(#, 0)");
        indexOnTheTape("Promise 24", "damageIfFlipped(#, 4)");
        range("Promise 24, b: bit, 0 to 4", "punch(3)", "damageIfFlipped(0, #)", 0, 4, "BAD_VALUE");
        for (String part : new String[] {"Promise 25: confidenceNumerator", "Promise 26: confidenceDenominator"}) {
            String name = part.substring(part.indexOf(' ', 8) + 1);
            String promise = part.substring(0, 10);
            indexOnTheTape(promise, name + "(#, 0)");
            indexOnTheTape(promise, name + "(#, 10)");
            range(promise + ", x: tenths, 0 to 10", "punch(29); punch(3)", name + "(1, #)", 0, 10, "BAD_VALUE");
            range(promise + ", x: tenths, 0 to 10, at the first index", "punch(29)", name + "(0, #)", 0, 10, "BAD_VALUE");
        }
    }

    private static void scripts() {
        range("Promise 27, n: number of commands, 1 to 4, script 0", "", "runScript(#, 0)", 1, 4, "BAD_VALUE");
        range("Promise 27, n: number of commands, 1 to 4, script 101", "", "runScript(#, 101)", 1, 4, "BAD_VALUE");
        // with int overflow 3 * n would be 2 and -1
        new Question("Promise 27, n times 3 does not overflow", "", "runScript(#, 0)").refuses(1431655766, "BAD_VALUE");
        new Question("Promise 27, n times 3 does not overflow", "", "runScript(#, 0)").refuses(1431655765, "BAD_VALUE");
        long first = 1;
        for (int n = 1; n <= 4; n++) {
            first *= 1000;
            scriptOf(n, first);
        }
    }

    /** The script with the least number that has a digit too many. */
    private static void scriptOf(int n, long tooLong) {
        Question question = new Question("Promise 27, at most " + 3 * n + " digits (0 or more)", "", "runScript(" + n + ", #)");
        for (long good : new long[] {0, 1, 9, 10, 99, 100, 999, tooLong / 10 - 1, tooLong / 10, tooLong - 2, tooLong - 1}) {
            question.allows(good);
        }
        // the last two would be good scripts with their higher bits cut off
        for (long bad : new long[] {-1, -2, -999, 1 - tooLong, -tooLong, Integer.MIN_VALUE, Long.MIN_VALUE, Long.MIN_VALUE + 1,
            tooLong, tooLong + 1, tooLong + 101, 10 * tooLong, Long.MAX_VALUE, Long.MAX_VALUE - 1, (1L << 40) + 101,
            (1L << 62) + 101}) {
            question.refuses(bad, "BAD_VALUE");
        }
    }

    private static void observationsAndNoise() {
        range("Promise 28, i: index in the printed text, 0 to 95", "", "observe(#, 65)", 0, 95, "BAD_VALUE");
        range("Promise 28, i: 0 to 95, whatever is printed", "punch(0) * 3", "observe(#, 65)", 0, 95, "BAD_VALUE");
        range("Promise 28, c: character code, 0 to 255", "", "observe(0, #)", 0, 255, "BAD_VALUE");
        range("Promise 28, c: 0 to 255, at the last index", "", "observe(95, #)", 0, 255, "BAD_VALUE");
        Run.of("Promise 28, both out of range").calls("observe(-1, -1) = BAD_VALUE; observe(96, 256) = BAD_VALUE");
        range("Promise 30, m: number of steps, 1 to 60, an empty tape", "", "noise(5, #)", 1, 60, "BAD_VALUE");
        range("Promise 30, m: number of steps, 1 to 60", "punch(3) * 4", "noise(5, #)", 1, 60, "BAD_VALUE");
        Question seed = new Question("Promise 30, seed: any long", "punch(3) * 96", "noise(#, 60)");
        for (long any : new long[] {Long.MIN_VALUE, Long.MIN_VALUE + 1, Integer.MIN_VALUE, -2, -1, 0, 1, 2, Integer.MAX_VALUE,
            1L << 32, 1L << 33, Long.MAX_VALUE - 1, Long.MAX_VALUE}) {
            seed.allows(any);
        }
    }

    private static void slots() {
        range("Promise 31, slot: 0 or 1", "", "save(#)", 0, 1, "NO_SUCH_INDEX");
        range("Promise 32, slot: 0 or 1", "save(0); save(1)", "restore(#)", 0, 1, "NO_SUCH_INDEX");
        range("Promise 33, slot: 0 or 1", "save(0); save(1)", "editDistance(#)", 0, 1, "NO_SUCH_INDEX");
        Run.of("Promise 32, the other slot is empty").calls("save(0) = 0; restore(1) = NOT_POSSIBLE; restore(0) = 0");
        Run.of("Promise 33, the other slot is empty").calls("save(1) = 0; editDistance(0) = NOT_POSSIBLE; editDistance(1) = 0");
    }

    private static void firstListedError() {
        Run.of("Promise 2, BAD_VALUE goes before FULL").calls("append(65) * 60 = 60; append(256) = BAD_VALUE;"
            + "append(-1) = BAD_VALUE; append(255) = FULL; append(0) = FULL");
        Run.of("Promise 10, BAD_VALUE goes before FULL").calls("punch(0) * 96 = 96; punch(32) = BAD_VALUE;"
            + "punch(-1) = BAD_VALUE; punch(31) = FULL; punch(0) = FULL");
        Run.of("Promise 11, NOT_POSSIBLE goes before FULL").calls("punch(0) * 96 = 96; append(65) = 1; append(97) = 2;"
            + "encodeMessage() = NOT_POSSIBLE; clearMessage() = 2; append(65) = 1; encodeMessage() = FULL");
        Run.of("Promise 12, NOT_POSSIBLE goes before FULL").calls("punch(0) * 96 = 96; append(65) = 1; append(97) = 2;"
            + "encodeWrapped() = NOT_POSSIBLE; clearMessage() = 2; append(65) = 1; encodeWrapped() = FULL");
        Run.of("Promise 14, NO_SUCH_INDEX goes before BAD_VALUE").calls("flip(0, 5) = NO_SUCH_INDEX; punch(0) = 1;"
            + "flip(1, 5) = NO_SUCH_INDEX; flip(-1, -1) = NO_SUCH_INDEX; flip(0, 5) = BAD_VALUE; flip(0, -1) = BAD_VALUE");
        Run.of("Promise 16, NOT_POSSIBLE goes before FULL").calls("punch(31) * 95 = 95; punch(1) = 96; append(50) = 1;"
            + "repair() = NOT_POSSIBLE; clearMessage() = 1; append(49) = 1; append(49) = 2; repair() = NOT_POSSIBLE;"
            + "clearMessage() = 2; append(49) = 1; repair() = FULL");
        Run.of("Promise 24, NO_SUCH_INDEX goes before BAD_VALUE").calls("damageIfFlipped(0, 5) = NO_SUCH_INDEX; punch(0) = 1;"
            + "damageIfFlipped(1, 5) = NO_SUCH_INDEX; damageIfFlipped(-1, -1) = NO_SUCH_INDEX;"
            + "damageIfFlipped(0, 5) = BAD_VALUE; damageIfFlipped(0, -1) = BAD_VALUE");
        for (String name : new String[] {"confidenceNumerator", "confidenceDenominator"}) {
            Run.of("Promises 25 and 26, NO_SUCH_INDEX, then BAD_VALUE, then NOT_POSSIBLE").calls(
                name + "(0, 11) = NO_SUCH_INDEX; punch(29) * 11 = 11;" + name + "(11, 11) = NO_SUCH_INDEX;"
                + name + "(-1, -1) = NO_SUCH_INDEX;" + name + "(11, 5) = NO_SUCH_INDEX;" + name + "(10, 11) = BAD_VALUE;"
                + name + "(10, -1) = BAD_VALUE;" + name + "(10, 10) = NOT_POSSIBLE;" + name + "(10, 0) = NOT_POSSIBLE");
        }
        Run.of("Promise 30, BAD_VALUE for an empty tape too").calls("noise(1, 0) = BAD_VALUE; noise(1, 61) = BAD_VALUE");
        Run.of("Promise 32, NO_SUCH_INDEX goes before NOT_POSSIBLE").calls(
            "restore(2) = NO_SUCH_INDEX; restore(-1) = NO_SUCH_INDEX; restore(1) = NOT_POSSIBLE; restore(0) = NOT_POSSIBLE");
        Run.of("Promise 33, NO_SUCH_INDEX goes before NOT_POSSIBLE").calls("editDistance(2) = NO_SUCH_INDEX;"
            + "editDistance(-1) = NO_SUCH_INDEX; editDistance(1) = NOT_POSSIBLE; editDistance(0) = NOT_POSSIBLE");
    }
}
