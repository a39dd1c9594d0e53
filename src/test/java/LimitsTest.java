import java.math.BigInteger;

/** The limits that the document's description names, a test for each sentence: the last step before, and the first beyond. */
public final class LimitsTest {
    private static final String SIXTY = "ABCDEFGHIJKLMNOPQRSTUVWXYZABCDEFGHIJKLMNOPQRSTUVWXYZABCDEFGH";

    private LimitsTest() {
    }

    public static void main(String[] args) {
        theCode();
        unshift();
        theState();
        tapeFullByPunch();
        tapeFullByEncoding();
        tapeFullByWrapping();
        tapeFullByRepair();
        messageBuffer();
        encodable();
        encoding();
        rememberedStates();
        equalStatesAreRemembered();
        noActions();
        rowsAndColumns();
        lineFeeds();
        lastColumn();
        overstrikes();
        damageOfLosing();
        damageOfFlipping();
        confidenceEdges();
        shiftsOfTheConfidence();
        compacting();
        repairing();
        words();
        wrappedLines();
        observations();
        scriptDigits();
        scriptCommands();
        scriptTests();
        noiseSteps();
        noiseBits();
        slots();
        distances();
        lastCall();
        Run.finish();
    }

    // ---- the code

    private static void theCode() {
        Run.of("A code is an int from 0 to 31").calls("punch(0) = 1; punch(31) = 2; punch(32) = BAD_VALUE; punch(-1) = BAD_VALUE")
            .tape(0, 31);
        Run.of("In letters case code k prints the k-th letter").punched(0, 1, 24, 25).prints("ABYZ");
        Run.of("In figures case code k prints the k-th character").calls("setStartCase(1) = 0").punched(0, 1, 9, 10, 24, 25)
            .prints("019-;$");
        Run.of("Codes 0 to 25 print a character that depends on the case, 26 to 28 do not").punched(25, 26, 27, 28)
            .prints("Z \n\r").calls("setStartCase(1) = 0").prints("$ \n\r");
        Run.of("Code 26, 27 and 28 count as printed characters").punched(26, 27, 28).calls(
            "printedLength() = 3; printedAt(0) = 32; printedAt(1) = 10; printedAt(2) = 13; printedAt(3) = NO_SUCH_INDEX");
        Run.of("Code 29 switches the decoder to figures case").punched(29, 29, 0).cases("011").prints("0");
        Run.of("Code 30 switches it to letters case").calls("setStartCase(1) = 0").punched(30, 30, 0).cases("100").prints("A");
        Run.of("Code 31 is a null, in letters case").punched(31, 0).cases("00").prints("A");
        Run.of("Code 31 is a null, in figures case").punched(29, 31, 0).cases("011").prints("0");
        Run.of("These three codes print nothing").punched(29, 30, 31).prints("").calls("length() = 3");
    }

    private static void unshift() {
        Run.of("after each space that it decodes: not before it").punched(29, 26, 1).calls("setUnshiftOnSpace(1) = 0")
            .cases("010").prints(" B");
        Run.of("after each space: the first code too").calls("setStartCase(1) = 0; setUnshiftOnSpace(1) = 0").punched(26, 1)
            .cases("10").prints(" B");
        Run.of("after each space: the second one too").calls("setUnshiftOnSpace(1) = 0").punched(29, 26, 26, 29, 26, 1)
            .cases("010010");
        Run.of("after each space: not after a line feed, a carriage return or a null").calls("setUnshiftOnSpace(1) = 0")
            .punched(29, 27, 28, 31, 25, 1).cases("011111").prints("\n\r$1");
        Run.of("a space in letters case leaves it").calls("setUnshiftOnSpace(1) = 0").punched(26, 1).cases("00");
        Run.of("if the option is off, a space changes no case").punched(29, 26, 26, 1).cases("0111").prints("  1");
    }

    // ---- the state

    private static void theState() {
        Run.of("A new object has an empty tape").tape().prints("").calls("caseAt(0) = NO_SUCH_INDEX");
        Run.of("A new object has start case letters").calls("setStartCase(1) = 0; setStartCase(1) = 1");
        Run.of("A new object has the option off").calls("setUnshiftOnSpace(1) = 0; setUnshiftOnSpace(1) = 1");
        Run.of("A new object has page width 20").calls("cell(0, 19) = 0; cell(0, 20) = NO_SUCH_INDEX; setWidth(5) = 20");
        Run.of("A new object remembers nothing").calls("undo() = NOT_POSSIBLE");
        Run.of("A new object has an empty message").calls("errorPosition() = NONE; encodeMessage() = 0; clearMessage() = 0");
        Run.of("A new object has no observations").calls("possibleSettings() = 15; observe(0, 0) = 1");
        Run.of("A new object has empty slots").calls("restore(0) = NOT_POSSIBLE; restore(1) = NOT_POSSIBLE;"
            + "editDistance(0) = NOT_POSSIBLE; editDistance(1) = NOT_POSSIBLE");
        Run.of("The first code has index 0").punched(7, 8).calls("codeAt(0) = 7; codeAt(1) = 8");
        Run.of("Decoding starts in the start case").punched(7).calls("caseAt(0) = 0; setStartCase(1) = 0; caseAt(0) = 1");
        Run.of("An empty tape").calls("length() = 0; printedLength() = 0; compact() = 0; repair() = 0; encodeMessage() = 0;"
            + "encodeWrapped() = 0; overstrikes() = 0; cell(0, 0) = 0; cell(7, 19) = 0; noise(1, 60) = 0; save(0) = 0;"
            + "editDistance(0) = 0; possibleSettings() = 15; runScript(1, 500) = NONE; restore(0) = 0; length() = 0");
        Run.of("An empty tape again").calls("punch(3) = 1; remove(0) = 3; length() = 0; codeAt(0) = NO_SUCH_INDEX;"
            + "printedAt(0) = NO_SUCH_INDEX; remove(0) = NO_SUCH_INDEX; punch(4) = 1; codeAt(0) = 4");
    }

    private static void tapeFullByPunch() {
        Run.of("at most 96 codes").calls("punch(5) * 95 = 95; punch(6) = 96; punch(7) = FULL; length() = 96; codeAt(95) = 6;"
            + "codeAt(96) = NO_SUCH_INDEX");
        Run.of("at most 96 codes, after one was removed").calls("punch(5) * 96 = 96; punch(7) = FULL; remove(95) = 5;"
            + "punch(7) = 96; punch(7) = FULL; remove(0) = 5; punch(8) = 96; punch(8) = FULL; codeAt(94) = 7; codeAt(95) = 8");
        Run.of("at most 96 codes, all kinds of them").calls("punch(29) * 32; punch(31) * 32; punch(26) * 32 = 96;"
            + "punch(29) = FULL; punch(31) = FULL; punch(26) = FULL; printedLength() = 32; printedAt(31) = 32");
        Run.of("a full tape: the other actions go on").calls("punch(5) * 96 = 96; flip(95, 0) = 4; setStartCase(1) = 0;"
            + "setUnshiftOnSpace(1) = 0; setWidth(40) = 20; compact() = 0; undo() = 13; remove(95) = 4; length() = 95");
    }

    private static void tapeFullByEncoding() {
        Run.of("encodeMessage: FULL if more than 96, 60 letters").message(SIXTY).calls("punch(31) * 36 = 36;"
            + "encodeMessage() = 96; codeAt(95) = 7; undo() = 13; punch(31) = 37; encodeMessage() = FULL; length() = 37");
        Run.of("encodeMessage: FULL, a shift counts").message("1").calls("punch(31) * 94 = 94; encodeMessage() = 96;"
            + "undo() = 13; punch(31) = 95; encodeMessage() = FULL; punch(29) = 96; encodeMessage() = FULL; remove(0) = 31;"
            + "encodeMessage() = 96");
        // 48 characters with a shift before each but the first
        Run.of("encodeMessage: FULL, many shifts").message("A1".repeat(24)).calls("encodeMessage() = 95; undo() = 0;"
            + "setStartCase(1) = 0; encodeMessage() = 96; undo() = 1; append(49) = 49; encodeMessage() = FULL; append(65) = 50;"
            + "setStartCase(0) = 1; encodeMessage() = FULL; length() = 0");
        Run.of("encodeMessage: an empty message fits a full tape").calls("punch(3) * 96 = 96; encodeMessage() = 96");
        Run.of("encodeMessage: one character does not fit a full tape").message(" ").calls("punch(3) * 96 = 96;"
            + "encodeMessage() = FULL; length() = 96; codeAt(95) = 3; undo() = 13; encodeMessage() = 96; codeAt(95) = 26");
    }

    private static void tapeFullByWrapping() {
        Run.of("encodeWrapped: FULL if more than 96, one word").message(SIXTY).calls("punch(31) * 36 = 36;"
            + "encodeWrapped() = 96; codeAt(95) = 7; undo() = 13; punch(31) = 37; encodeWrapped() = FULL; length() = 37");
        Run.of("encodeWrapped: FULL, a space between two words").message("A B").calls("punch(31) * 93 = 93;"
            + "encodeWrapped() = 96; codeAt(94) = 26; undo() = 13; punch(31) = 94; encodeWrapped() = FULL; length() = 94");
        Run.of("encodeWrapped: FULL, the three codes before a line").message("ABCDE F").calls("setWidth(5) = 20;"
            + "punch(31) * 87 = 87; encodeWrapped() = 96; codeAt(92) = 28; codeAt(93) = 27; codeAt(94) = 30; codeAt(95) = 5;"
            + "undo() = 13; punch(31) = 88; encodeWrapped() = FULL; length() = 88; remove(0) * 2; punch(31) = 87;"
            + "encodeWrapped() = 96");
        Run.of("encodeWrapped: FULL, a shift counts").message("A 1").calls("punch(31) * 92 = 92; encodeWrapped() = 96;"
            + "undo() = 13; punch(31) = 93; encodeWrapped() = FULL; length() = 93");
        Run.of("encodeWrapped: separators at the ends take no space").message("  A\r\n ").calls("punch(31) * 95 = 95;"
            + "encodeWrapped() = 96; codeAt(95) = 0; encodeWrapped() = FULL");
        // 30 words of a letter: 10 lines of three words, 50 codes and nine times 3
        Run.of("encodeWrapped: sixty characters of one-letter words").message("A ".repeat(30)).calls("setWidth(5) = 20;"
            + "encodeWrapped() = 77; printedLength() = 68; undo() = 1; punch(31) * 19 = 19; encodeWrapped() = 96; undo() = 13;"
            + "punch(31) = 20; encodeWrapped() = FULL");
    }

    private static void tapeFullByRepair() {
        Run.of("repair: FULL if more than 96").calls("punch(31) * 94 = 94; punch(1) = 95").message("1").calls("repair() = 1;"
            + "length() = 96; undo() = 13; punch(31) = 96; repair() = FULL; length() = 96; codeAt(94) = 1; remove(0) = 31;"
            + "repair() = 1; codeAt(93) = 29; codeAt(94) = 1; codeAt(95) = 31");
        Run.of("repair: FULL, two shifts").calls("punch(31) * 92 = 92; punch(1) = 93; punch(1) = 94").message("1B").calls(
            "repair() = 2; length() = 96; undo() = 13; punch(31) = 95; repair() = FULL; punch(31) = 96; repair() = FULL");
        Run.of("repair: a full tape that lacks no shift").calls("punch(31) * 95 = 95; punch(1) = 96").message("B").calls(
            "repair() = 0; length() = 96");
        Run.of("repair: 48 shifts").calls("punch(1) * 48 = 48").message("1B".repeat(24)).calls("repair() = 48; length() = 96;"
            + "codeAt(0) = 29; codeAt(94) = 30; codeAt(95) = 1; undo() = 13; append(49) = 49; punch(1) = 49; repair() = FULL");
        Run.of("repair: 60 characters").calls("punch(1) * 60 = 60").message("B".repeat(60)).calls(
            "repair() = 0; setStartCase(1) = 0; repair() = 1; length() = 61; codeAt(0) = 30; punch(1) = 62;"
            + "repair() = NOT_POSSIBLE");
    }

    // ---- the message buffer

    private static void messageBuffer() {
        Run.of("a message buffer of at most 60 characters").calls("append(65) * 59 = 59; append(66) = 60; append(67) = FULL;"
            + "encodeMessage() = 60; codeAt(58) = 0; codeAt(59) = 1; clearMessage() = 60; clearMessage() = 0; append(67) = 1;"
            + "append(68) * 59 = 60; append(69) = FULL; clearMessage() = 60");
        Run.of("a full message is empty after clearMessage").message(SIXTY).calls("clearMessage() = 60; encodeMessage() = 0;"
            + "errorPosition() = NONE; append(90) = 1; encodeMessage() = 1; codeAt(0) = 25");
        Run.of("the characters that are refused are not in the message").calls("append(256) = BAD_VALUE; append(65) = 1;"
            + "append(-1) = BAD_VALUE; append(66) = 2; encodeMessage() = 2").tape(0, 1);
    }

    private static void encodable() {
        // both ends of each run of encodable characters, and their neighbours
        String yes = "\n\r !$(),-./09:;=?AZ%&'+";
        int[] no = {0, 9, 11, 12, 14, 31, 34, 35, 42, 60, 62, 64, 91, 96, 97, 122, 127, 128, 138, 160, 193, 255};
        for (char c : yes.toCharArray()) {
            Run.of("encodable: " + (int) c).calls("append(" + (int) c + ") = 1; errorPosition() = NONE")
                .calls("encodeMessage(); encodeWrapped()").calls("printedAt(0) = " + (int) c);
        }
        for (int c : no) {
            Run.of("not encodable: " + c).calls("append(" + c + ") = 1; errorPosition() = 0; encodeMessage() = NOT_POSSIBLE;"
                + "encodeWrapped() = NOT_POSSIBLE; repair() = NOT_POSSIBLE; length() = 0; undo() = NOT_POSSIBLE");
        }
        Run.of("errorPosition: an empty message").calls("errorPosition() = NONE");
        Run.of("errorPosition: the first place").message("a").calls("errorPosition() = 0");
        Run.of("errorPosition: the last place of 60").message(SIXTY.substring(1) + "a").calls("errorPosition() = 59");
        Run.of("errorPosition: 60 that are encodable").message(SIXTY).calls("errorPosition() = NONE");
        Run.of("errorPosition: the first of several").message("AB#C#").calls("errorPosition() = 2");
        Run.of("errorPosition: none behind the end of a shorter message").message("AB#").calls("clearMessage() = 3;"
            + "append(65) = 1; errorPosition() = NONE; append(66) = 2; errorPosition() = NONE; append(66) = 3;"
            + "errorPosition() = NONE");
        Run.of("not encodable at the last place").message("AB#").calls("encodeMessage() = NOT_POSSIBLE;"
            + "encodeWrapped() = NOT_POSSIBLE; length() = 0; undo() = NOT_POSSIBLE");
    }

    private static void encoding() {
        Run.of("printed only in the case in which the decoder is not: a figure").message("1").calls("encodeMessage() = 2")
            .tape(29, 1);
        Run.of("printed only in the case in which the decoder is not: a letter").message("A").calls("setStartCase(1) = 0;"
            + "encodeMessage() = 2").tape(30, 0);
        Run.of("no shift before a character that both cases print").message(" \n\r").calls("encodeMessage() = 3;"
            + "setStartCase(1) = 0; encodeMessage() = 6").tape(26, 27, 28, 26, 27, 28);
        Run.of("after all codes of the tape so far: a shift at its end").punched(29).message("1").calls("encodeMessage() = 2")
            .tape(29, 1);
        Run.of("after all codes of the tape so far: a space that unshifts at its end").punched(29, 26).message("1").calls(
            "setUnshiftOnSpace(1) = 0; encodeMessage() = 4").tape(29, 26, 29, 1);
    }

    // ---- actions and undo

    private static void rememberedStates() {
        Run.of("the last 14 actions: one").calls("punch(1) = 1; undo() = 0; undo() = NOT_POSSIBLE; length() = 0");
        Run.of("the last 14 actions: thirteen").calls("punch(1) * 13 = 13; undo() = 12; undo() * 12 = 0; length() = 0;"
            + "undo() = NOT_POSSIBLE");
        Run.of("the last 14 actions: fourteen").calls("punch(1) * 14 = 14; undo() = 13; undo() * 13 = 0; length() = 0;"
            + "undo() = NOT_POSSIBLE");
        Run.of("when a fifteenth action happens, the oldest state is forgotten").calls("punch(1) * 15 = 15; undo() = 13;"
            + "undo() * 13 = 0; length() = 1; undo() = NOT_POSSIBLE; length() = 1");
        Run.of("a sixteenth action").calls("punch(1) * 16 = 16; undo() = 13; undo() * 13 = 0; length() = 2; undo() = NOT_POSSIBLE");
        Run.of("twice as many, and one more").calls("punch(1) * 28 = 28; undo() * 14 = 0; length() = 14; undo() = NOT_POSSIBLE;"
            + "punch(1) * 15 = 29; undo() * 14 = 0; length() = 15; undo() = NOT_POSSIBLE");
        Run.of("after an undo there is space for one more").calls("punch(1) * 14 = 14; undo() = 13; punch(2) = 14; undo() = 13;"
            + "undo() * 13 = 0; length() = 0");
        Run.of("after an undo of fifteen").calls("punch(1) * 15 = 15; undo() = 13; punch(2) = 15; punch(3) = 16; undo() = 13;"
            + "undo() * 13 = 0; length() = 2; undo() = NOT_POSSIBLE");
        Run.of("each of the last 14 states, whole").calls(fifteenWidths() + "undo() = 13; setWidth(19) = 18; undo() = 13;"
            + "undo() = 12; setWidth(18) = 17; undo() = 12; undo() * 12 = 0; setWidth(20) = 5");
        Run.of("the state before, not after").calls("setStartCase(1) = 0; setUnshiftOnSpace(1) = 0; setWidth(40) = 20;"
            + "undo() = 2; setWidth(9) = 20; undo() = 2; undo() = 1; setUnshiftOnSpace(0) = 0; undo() = 1; undo() = 0;"
            + "setStartCase(0) = 0");
    }

    private static String fifteenWidths() {
        StringBuilder calls = new StringBuilder();
        for (int width = 5; width <= 19; width++) {
            calls.append("setWidth(").append(width).append(") = ").append(width == 5 ? 20 : width - 1).append("; ");
        }
        return calls.toString();
    }

    private static void equalStatesAreRemembered() {
        String[] calls = {"encodeMessage() = 1", "encodeWrapped() = 1", "compact() = 0", "setStartCase(0) = 0",
            "setUnshiftOnSpace(0) = 0", "setWidth(20) = 20"};
        for (String call : calls) {
            Run.of("Each successful call is an action, even if the state stays equal").punched(1).calls(call
                + "; undo() = 1; length() = 1; undo() = 0; length() = 0");
            Run.of("a fifteenth action that leaves the state equal").punched(1).calls((call + ";").repeat(14)
                + "undo() * 14 = 0; length() = 1; undo() = NOT_POSSIBLE");
        }
        Run.of("a repair without insertions is an action").punched(1).message("B").calls("repair() = 0; undo() = 1; length() = 1");
        Run.of("words are missing, and yet it is an action").punched(1).message(" \n").calls("encodeWrapped() = 1; undo() = 1");
    }

    private static void noActions() {
        Run.of("undo is not an action").calls("punch(1) * 3 = 3; undo() = 2; undo() = 1; undo() = 0; length() = 0;"
            + "undo() = NOT_POSSIBLE");
        Run.of("restore is not an action, and forgets all remembered states").calls("punch(1) * 3 = 3; save(0) = 3;"
            + "restore(0) = 3; undo() = NOT_POSSIBLE; length() = 3; punch(2) = 4; undo() = 0; length() = 3");
        Run.of("restore forgets 14 states too").calls("punch(1) * 20 = 20; save(1) = 20; restore(1) = 20; undo() = NOT_POSSIBLE;"
            + "punch(2) * 15 = 35; undo() = 13; undo() * 13 = 0; length() = 21; undo() = NOT_POSSIBLE");
        Run.of("a restore that is refused forgets nothing").calls("punch(1) * 2 = 2; restore(0) = NOT_POSSIBLE;"
            + "restore(2) = NO_SUCH_INDEX; undo() = 1; undo() = 0");
        Run.of("an error is not the fifteenth action").calls("punch(1) * 14 = 14; punch(32) = BAD_VALUE; remove(14) = NO_SUCH_INDEX;"
            + "flip(0, 5) = BAD_VALUE; setWidth(4) = BAD_VALUE; setStartCase(2) = BAD_VALUE; setUnshiftOnSpace(2) = BAD_VALUE;"
            + "append(97) = 1; encodeMessage() = NOT_POSSIBLE; encodeWrapped() = NOT_POSSIBLE; repair() = NOT_POSSIBLE;"
            + "undo() * 14 = 0; length() = 0");
        Run.of("FULL is not an action").calls("punch(1) * 96 = 96; append(49) = 1; punch(1) = FULL; encodeMessage() = FULL;"
            + "encodeWrapped() = FULL; undo() = 13; length() = 95");
        Run.of("undo brings no message, observation or slot back").punched(1).calls("append(65) = 1; observe(0, 66) = 1;"
            + "save(0) = 1; undo() = 0; append(65) = 2; observe(0, 66) = 2; restore(0) = 1; append(65) = 3; observe(0, 66) = 3");
    }

    // ---- the page

    private static void rowsAndColumns() {
        Run.of("8 rows, numbered 0 to 7").calls("punch(27) * 7; punch(0) = 8; cell(7, 0) = 65; cell(8, 0) = NO_SUCH_INDEX;"
            + "cell(6, 0) = 0; cell(0, 0) = 0; cell(-1, 0) = NO_SUCH_INDEX");
        Run.of("columns numbered from 0, as many as the least width").punched(0, 1, 2, 3, 4).calls("setWidth(5) = 20")
            .row(0, "ABCDE").calls("cell(0, -1) = NO_SUCH_INDEX");
        Run.of("as many columns as the largest width").calls("setWidth(40) = 20; punch(0) * 39; punch(1) = 40; cell(0, 38) = 65;"
            + "cell(0, 39) = 66; cell(0, 40) = NO_SUCH_INDEX; overstrikes() = 0");
        Run.of("An empty cell holds 0, a space does not leave it empty").punched(26).calls("cell(0, 0) = 32; cell(0, 1) = 0;"
            + "cell(1, 0) = 0");
        Run.of("beginning at row 0 and column 0").punched(0).calls("cell(0, 0) = 65; cell(0, 1) = 0; cell(1, 0) = 0");
        Run.of("A carriage return moves to column 0 of the same row").punched(27, 0, 1, 28, 2).calls("setWidth(5) = 20")
            .row(0, "_____").row(1, "CB___").row(2, "_____");
        Run.of("A carriage return in column 0").punched(28, 28, 0).calls("setWidth(5) = 20").row(0, "A____");
        Run.of("the page of another width is printed anew").punched(0, 1, 2, 3, 4, 5).calls("cell(0, 5) = 70; setWidth(5) = 20;"
            + "cell(0, 4) = 70; cell(0, 5) = NO_SUCH_INDEX; setWidth(6) = 5; cell(0, 4) = 69; cell(0, 5) = 70;"
            + "cell(0, 6) = NO_SUCH_INDEX");
        Run.of("the page of a shorter tape is printed anew").punched(0, 1, 27, 2).calls("cell(1, 2) = 67; remove(3) = 2;"
            + "cell(1, 2) = 0; remove(1) = 1; cell(0, 1) = 0; cell(0, 0) = 65; remove(0) = 0; cell(0, 0) = 0");
    }

    private static void lineFeeds() {
        Run.of("A line feed moves to the next row and keeps the column").punched(0, 27, 1, 27, 2).calls("setWidth(5) = 20")
            .row(0, "A____").row(1, "_B___").row(2, "__C__").row(3, "_____");
        Run.of("a line feed in row 6 moves to row 7").calls("punch(0) = 1; punch(27) * 6; punch(1) = 8; punch(27) = 9;"
            + "punch(2) = 10; cell(0, 0) = 65; cell(6, 1) = 66; cell(7, 2) = 67; cell(7, 1) = 0");
        Run seven = Run.of("if the printer is in row 7, all rows move up by one instead").calls("setWidth(5) = 20");
        seven.punched(0, 28, 27, 1, 28, 27, 2, 28, 27, 3, 28, 27, 4, 28, 27, 5, 28, 27, 6, 28, 27, 7);
        seven.row(0, "A____").row(1, "B____").row(6, "G____").row(7, "H____");
        seven.punched(27).row(0, "B____").row(1, "C____").row(5, "G____").row(6, "H____").row(7, "_____");
        seven.punched(8).row(0, "B____").row(6, "H____").row(7, "_I___");
        seven.punched(27, 9).row(0, "C____").row(5, "H____").row(6, "_I___").row(7, "__J__").calls("overstrikes() = 0");
        Run.of("the content of row 0 is lost").calls("punch(0) = 1; punch(27) * 7 = 8; cell(0, 0) = 65; punch(27) = 9;"
            + "cell(0, 0) = 0; cell(7, 0) = 0; punch(27) * 8; cell(0, 0) = 0; cell(3, 0) = 0");
        Run.of("row 7 becomes empty, up to the last column of the largest width").calls("setWidth(40) = 20; punch(27) * 7;"
            + "punch(0) * 40 = 47; cell(7, 0) = 65; cell(7, 39) = 65; punch(27) = 48; cell(7, 0) = 0; cell(7, 20) = 0;"
            + "cell(7, 39) = 0; cell(6, 0) = 65; cell(6, 39) = 65; cell(5, 39) = 0");
        Run.of("as many line feeds as a tape has codes").calls("punch(27) * 95; punch(0) = 96; cell(7, 0) = 65; cell(6, 0) = 0;"
            + "overstrikes() = 0");
    }

    private static void lastColumn() {
        Run.of("unless it is the last column: then it stays").calls("setWidth(5) = 20").punched(0, 1, 2, 3, 4).row(0, "ABCDE")
            .punched(5).row(0, "ABCDF").punched(6).row(0, "ABCDG").row(1, "_____");
        Run.of("the last column of the largest width").calls("setWidth(40) = 20; punch(0) * 40 = 40; overstrikes() = 0;"
            + "punch(1) = 41; cell(0, 39) = 66; cell(0, 38) = 65; cell(1, 0) = 0; overstrikes() = 1");
        Run.of("a line feed in the last column keeps it").calls("setWidth(5) = 20").punched(0, 1, 2, 3, 4, 27, 5, 6).row(0, "ABCDE")
            .row(1, "____G").calls("overstrikes() = 1");
        Run.of("a carriage return leaves the last column").calls("setWidth(5) = 20").punched(0, 1, 2, 3, 4, 5, 28, 6, 7)
            .row(0, "GHCDF").calls("overstrikes() = 3");
        Run.of("a space in the last column replaces and stays").calls("setWidth(5) = 20").punched(0, 1, 2, 3, 4, 26).row(0, "ABCD ")
            .punched(5).row(0, "ABCDF").calls("overstrikes() = 0");
    }

    private static void overstrikes() {
        Run.of("a character over an empty cell is no overstrike").punched(0, 1).calls("overstrikes() = 0");
        Run.of("a character over a space is no overstrike").punched(26, 28, 0).calls("overstrikes() = 0; cell(0, 0) = 65");
        Run.of("a space over a character is no overstrike").punched(0, 28, 26).calls("overstrikes() = 0; cell(0, 0) = 32");
        Run.of("a space over a space is no overstrike").punched(26, 28, 26).calls("overstrikes() = 0");
        Run.of("a character over another is one").punched(0, 28, 1).calls("overstrikes() = 1; cell(0, 0) = 66");
        Run.of("a character over itself is one").punched(0, 28, 0, 28, 0).calls("overstrikes() = 2");
        Run.of("line feed and carriage return store nothing").punched(0, 28, 28, 27, 28, 27).calls("overstrikes() = 0");
        Run.of("those in rows that have moved up count").calls("punch(27) * 7; punch(0); punch(28); punch(1) = 10;"
            + "overstrikes() = 1; punch(27) = 11; overstrikes() = 1; cell(6, 0) = 66");
        Run.of("those in rows that are lost count").calls("punch(0); punch(28); punch(1) = 3; punch(27) * 7 = 10;"
            + "overstrikes() = 1; punch(27) = 11; overstrikes() = 1; punch(28); punch(2); punch(28); punch(3) = 15; overstrikes() = 2");
        Run.of("a row that moved away is not struck over").calls("punch(27) * 7; punch(0); punch(28); punch(27); punch(1) = 11;"
            + "overstrikes() = 0; cell(6, 0) = 65; cell(7, 0) = 66");
        Run.of("as many overstrikes as there can be").calls("setWidth(5) = 20; punch(0) * 96 = 96; overstrikes() = 91;"
            + "setWidth(40) = 5; overstrikes() = 56");
    }

    // ---- lost and corrupted codes

    private static void damageOfLosing() {
        Run.of("codes from 0 to 25: the first and the last of them").punched(29, 0, 25).calls("damageIfLost(0) = 2");
        Run.of("codes from 0 to 25: not 26 to 31").punched(29, 26, 27, 28, 31, 29, 1, 30).calls("damageIfLost(0) = 0");
        Run.of("at indexes greater than i: none before it").punched(0, 0, 29, 1).calls("damageIfLost(2) = 1");
        Run.of("The lost code itself does not count").punched(29, 3).calls("damageIfLost(1) = 0; damageIfLost(0) = 1");
        Run.of("the last index").punched(0, 29).calls("damageIfLost(1) = 0; damageIfLost(2) = NO_SUCH_INDEX");
        Run.of("a full tape").calls("punch(29) = 1; punch(0) * 95 = 96; damageIfLost(0) = 95; damageIfLost(95) = 0;"
            + "damageIfLost(96) = NO_SUCH_INDEX");
        Run.of("up to the next shift").punched(29, 1, 2, 30, 3).calls("damageIfLost(0) = 2; damageIfLost(3) = 1");
        Run.of("up to the next space that unshifts").punched(29, 1, 26, 3).calls("damageIfLost(0) = 2; setUnshiftOnSpace(1) = 0;"
            + "damageIfLost(0) = 1; damageIfLost(2) = 1");
    }

    private static void damageOfFlipping() {
        for (int b = 0; b < 5; b++) {
            // one bit away from the shift to figures
            int code = 29 ^ 1 << b;
            int itself = code == 31 ? 0 : 1;
            Run run = Run.of("bit " + b + ", from i on").punched(0, code, 1, 1, 1);
            run.calls("damageIfFlipped(1, " + b + ") = " + (itself + 3) + "; flip(1, " + b + ") = 29").tape(0, 29, 1, 1, 1);
            run.calls("damageIfFlipped(1, " + b + ") = " + (itself + 3) + "; flip(1, " + b + ") = " + code);
            run.calls("damageIfFlipped(4, " + b + ") = 1; damageIfFlipped(5, " + b + ") = NO_SUCH_INDEX");
        }
        Run.of("nothing and nothing do not differ").punched(31).calls("damageIfFlipped(0, 0) = 0; damageIfFlipped(0, 1) = 0;"
            + "damageIfFlipped(0, 2) = 1");
        Run.of("a full tape: the first and the last code").calls("punch(13) = 1; punch(0) * 95 = 96; damageIfFlipped(0, 4) = 96;"
            + "damageIfFlipped(0, 0) = 1; damageIfFlipped(95, 4) = 1; damageIfFlipped(96, 4) = NO_SUCH_INDEX");
        Run.of("all bits from 0 and from 31").punched(0, 31).calls("flip(0, 0) = 1; flip(0, 1) = 3; flip(0, 2) = 7;"
            + "flip(0, 3) = 15; flip(0, 4) = 31; flip(1, 4) = 15; flip(1, 3) = 7; flip(1, 2) = 3; flip(1, 1) = 1; flip(1, 0) = 0");
    }

    private static void confidenceEdges() {
        Run.of("x 0: nothing is lost").punched(29, 30, 29, 0).calls(confidence(0, 0, 1, 1) + confidence(3, 0, 1, 1));
        Run.of("x 10: all is lost, 0 for probability 0 and 1 below it").punched(29, 0).calls(confidence(1, 10, 0, 1));
        Run.of("x 10: all is lost, and the case is that of the start").punched(29, 30, 0).calls(confidence(2, 10, 1, 1));
        Run.of("x 1 and 9").punched(29, 0).calls(confidence(1, 1, 9, 10) + confidence(1, 9, 1, 10));
        Run.of("in lowest terms").punched(29, 0).calls(confidence(1, 2, 4, 5) + confidence(1, 4, 3, 5) + confidence(1, 5, 1, 2)
            + confidence(1, 6, 2, 5) + confidence(1, 8, 1, 5));
        Run.of("at an index below i: not the code at i").punched(29, 29, 29).calls(confidence(0, 10, 1, 1) + confidence(1, 10, 0, 1)
            + confidence(1, 5, 1, 2) + confidence(2, 5, 3, 4));
        Run.of("a code before all shifts").punched(0, 29, 0).calls(confidence(0, 7, 1, 1) + confidence(1, 7, 1, 1)
            + confidence(2, 7, 3, 10));
        Run.of("a space that unshifts is never lost").punched(29, 26, 0).calls("setUnshiftOnSpace(1) = 0;" + confidence(2, 10, 1, 1)
            + confidence(2, 3, 1, 1) + confidence(1, 3, 7, 10));
        Run.of("a space that unshifts: what was lost before it does not count behind it").punched(29, 26, 29, 0).calls(
            "setUnshiftOnSpace(1) = 0;" + confidence(3, 3, 7, 10) + confidence(3, 10, 0, 1));
        Run.of("start case figures: a shift to letters is lost").calls("setStartCase(1) = 0").punched(30, 0).calls(
            confidence(0, 3, 1, 1) + confidence(1, 3, 7, 10) + confidence(1, 0, 1, 1) + confidence(1, 10, 0, 1));
        Run.of("start case figures: a shift to figures is of no account").calls("setStartCase(1) = 0").punched(29, 0).calls(
            confidence(1, 3, 1, 1) + confidence(1, 10, 1, 1));
        // 0.3 * 0.3 of both lost, 0.7 of the last one not lost
        Run.of("two shifts to letters from figures").calls("setStartCase(1) = 0").punched(30, 30, 0).calls(
            confidence(2, 3, 91, 100) + confidence(2, 10, 0, 1) + confidence(2, 9, 19, 100));
        Run.of("there, back and there again").punched(29, 30, 29, 30, 0).calls(confidence(1, 3, 7, 10) + confidence(2, 3, 79, 100)
            + confidence(3, 3, 763, 1000) + confidence(4, 3, 7711, 10000) + confidence(4, 10, 1, 1) + confidence(3, 10, 0, 1));
        Run.of("the case of the code itself does not matter").punched(29, 31, 30).calls(confidence(1, 3, 7, 10)
            + confidence(2, 3, 7, 10));
    }

    private static void shiftsOfTheConfidence() {
        Run.of("9 shift codes below the index").calls("punch(29) * 9; punch(0) = 10;" + confidence(9, 1, 999999999, 1000000000)
            + confidence(9, 0, 1, 1) + confidence(9, 10, 0, 1) + confidence(9, 5, 511, 512) + confidence(9, 7, 959646393, 1000000000)
            + confidence(9, 8, 1690981, 1953125) + confidence(9, 2, 1953124, 1953125));
        Run.of("more than 9 shift codes below the index").calls("punch(29) * 10; punch(0) = 11;" + confidence(9, 5, 511, 512)
            + noConfidence(10, 5) + noConfidence(10, 0) + noConfidence(10, 10));
        Run.of("9 of both kinds").calls("punch(29) * 4; punch(30) * 5; punch(0) = 10;" + confidence(9, 10, 1, 1)
            + confidence(9, 0, 1, 1) + "punch(30) = 11;" + confidence(10, 0, 1, 1) + "punch(31) = 12;" + noConfidence(11, 0));
        Run.of("shift codes behind the index do not count").calls("punch(0) = 1; punch(29) * 95 = 96;" + confidence(0, 5, 1, 1)
            + confidence(9, 5, 255, 256) + confidence(10, 5, 511, 512) + noConfidence(11, 5) + noConfidence(95, 5));
        Run.of("nulls and spaces do not count, the last index of a full tape").calls("setUnshiftOnSpace(1) = 0; punch(31) * 40;"
            + "punch(26) * 46; punch(29) * 9 = 95; punch(0) = 96;" + confidence(95, 5, 511, 512) + "flip(0, 1) = 29;"
            + noConfidence(95, 5));
        Run.of("shifts that a space made of no account count all the same").calls("setUnshiftOnSpace(1) = 0; punch(29) * 10;"
            + "punch(26) = 11; punch(0) = 12;" + noConfidence(11, 5) + "remove(0) = 29;" + confidence(10, 5, 1, 1));
    }

    private static String confidence(int i, int x, int numerator, int denominator) {
        String question = "(" + i + ", " + x + ") = ";
        return "confidenceNumerator" + question + numerator + "; confidenceDenominator" + question + denominator + "; ";
    }

    private static String noConfidence(int i, int x) {
        String question = "(" + i + ", " + x + ") = NOT_POSSIBLE; ";
        return "confidenceNumerator" + question + "confidenceDenominator" + question;
    }

    // ---- compacting and repair

    private static void compacting() {
        Run.of("Start with index 0").punched(31, 0).calls("compact() = 1").tape(0);
        Run.of("look at the same index again").punched(31, 31, 30, 31, 0).calls("compact() = 4").tape(0);
        Run.of("Stop behind the last code").punched(0, 31).calls("compact() = 1").tape(0);
        Run.of("a shift with nothing behind it").punched(0, 29).calls("compact() = 1").tape(0);
        Run.of("a shift that is needed, at the first and the last index but one").punched(29, 0, 30, 0).calls("compact() = 0")
            .tape(29, 0, 30, 0);
        Run.of("a null or a shift code: no other").punched(26, 27, 28, 25, 0).calls("compact() = 0").tape(26, 27, 28, 25, 0);
        Run.of("one by one from the first: the last of several shifts stays").punched(29, 29, 29, 1).calls("compact() = 2")
            .tape(29, 1);
        Run.of("an earlier removal may make a later shift needed").punched(29, 30, 29, 1).calls("compact() = 2").tape(29, 1);
        Run.of("a shift only before characters of both cases").punched(29, 26, 27, 28).calls("compact() = 1").tape(26, 27, 28);
        Run.of("an empty tape").calls("compact() = 0; length() = 0");
        Run.of("a full tape, all of it").calls("punch(31) * 48; punch(29) * 48 = 96; compact() = 96; length() = 0; undo() = 13;"
            + "length() = 96");
        Run.of("a full tape, nothing of it").calls("punch(0) * 96 = 96; compact() = 0; length() = 96");
        Run.of("a full tape, all but the last code").calls("punch(30) * 95; punch(25) = 96; compact() = 95").tape(25);
    }

    private static void repairing() {
        Run.of("an empty tape and an empty message").calls("repair() = 0; undo() = 0; length() = 0");
        Run.of("an empty tape and a message").message(" ").calls("repair() = NOT_POSSIBLE");
        Run.of("an empty message and a tape that prints nothing").punched(31, 29, 30).calls("repair() = 0").tape(31, 29, 30);
        Run.of("an empty message and a tape that prints something").punched(26).calls("repair() = NOT_POSSIBLE").tape(26);
        Run.of("a message shorter by one").punched(0, 1, 2).message("AB").calls("repair() = NOT_POSSIBLE").tape(0, 1, 2);
        Run.of("a message longer by one").punched(0, 1).message("ABC").calls("repair() = NOT_POSSIBLE").tape(0, 1);
        Run.of("a difference at the first character").punched(0, 1).message("BB").calls("repair() = NOT_POSSIBLE");
        Run.of("a difference at the last character").punched(0, 1).message("AC").calls("repair() = NOT_POSSIBLE");
        Run.of("each of them directly before the code that needs it").punched(31, 26, 31, 1, 31, 26, 1).message(" 1 B").calls(
            "repair() = 2").tape(31, 26, 31, 29, 1, 31, 26, 30, 1);
        Run.of("no shift before a character of both cases").punched(1, 26, 27, 28).message("1 \n\r").calls("repair() = 1")
            .tape(29, 1, 26, 27, 28);
        Run.of("a space that unshifts needs another shift").calls("setUnshiftOnSpace(1) = 0").punched(1, 26, 1).message("1 1")
            .calls("repair() = 2").tape(29, 1, 26, 29, 1);
        Run.of("a space that unshifts spares a shift").calls("setUnshiftOnSpace(1) = 0").punched(1, 26, 1).message("1 B")
            .calls("repair() = 1").tape(29, 1, 26, 1);
        Run.of("The codes of the tape stay, a wrong shift too").punched(29, 1).message("B").calls("repair() = 1").tape(29, 30, 1);
        Run.of("before the code from 0 to 25 that needs it: 0 and 25").punched(0, 25).message("0Z").calls("repair() = 2")
            .tape(29, 0, 30, 25);
        Run.of("a second repair has nothing to do").punched(1).message("1").calls("repair() = 1; repair() = 0; undo() = 2");
    }

    // ---- wrapped messages

    private static void words() {
        Run.of("no words: an empty message").calls("encodeWrapped() = 0; undo() = 0");
        Run.of("no words: one space").message(" ").calls("encodeWrapped() = 0");
        Run.of("no words: one line feed").message("\n").calls("encodeWrapped() = 0");
        Run.of("no words: one carriage return").message("\r").calls("encodeWrapped() = 0");
        Run.of("no words: sixty separators, behind a tape").punched(29, 3).message(" \n\r".repeat(20)).calls("encodeWrapped() = 2")
            .tape(29, 3).calls("undo() = 2");
        Run.of("the longest runs: separators on both sides").message(" \r\nAB\n\r ").calls("encodeWrapped() = 2").tape(0, 1);
        Run.of("the longest runs: each separator ends a word").message("A B\nC\rD").calls("encodeWrapped() = 7").prints("A B C D");
        Run.of("the longest runs: many separators are one space").message("A \n\r B").calls("encodeWrapped() = 3").prints("A B");
        Run.of("a word at both ends").message("A BCD E").calls("encodeWrapped() = 7").prints("A BCD E");
        Run.of("one word of sixty").message(SIXTY).calls("setWidth(5) = 20; encodeWrapped() = 60").prints(SIXTY);
    }

    private static void wrappedLines() {
        Run.of("at most w characters, the least width").message("AB CD").calls("setWidth(5) = 20; encodeWrapped() = 5")
            .tape(0, 1, 26, 2, 3);
        Run.of("one more than w, the least width").message("AB CDE").calls("setWidth(5) = 20; encodeWrapped() = 8")
            .tape(0, 1, 28, 27, 30, 2, 3, 4);
        String half = "A".repeat(20);
        Run.of("at most w characters, the largest width").message(half + " " + half.substring(1)).calls("setWidth(40) = 20;"
            + "encodeWrapped() = 40; codeAt(20) = 26; printedLength() = 40");
        Run.of("one more than w, the largest width").message(half + " " + half).calls("setWidth(40) = 20; encodeWrapped() = 43;"
            + "codeAt(20) = 28; codeAt(21) = 27; codeAt(22) = 30; codeAt(23) = 0; printedLength() = 42");
        Run.of("the line, not the word, has at most w characters").message("A B C D").calls("setWidth(5) = 20; encodeWrapped() = 9")
            .prints("A B C\r\nD");
        Run.of("a word of w characters is a line").message("ABCDE FGHIJ").calls("setWidth(5) = 20; encodeWrapped() = 13")
            .prints("ABCDE\r\nFGHIJ");
        Run.of("unless the present line is the empty first line").message("ABCDEF").calls("setWidth(5) = 20; encodeWrapped() = 6")
            .prints("ABCDEF");
        Run.of("A word longer than w is not divided, on a later line").message("A BCDEFG H").calls("setWidth(5) = 20;"
            + "encodeWrapped() = 14").prints("A\r\nBCDEFG\r\nH");
        Run.of("behind a longer word nothing fits").message("ABCDEF G H").calls("setWidth(5) = 20; encodeWrapped() = 12")
            .prints("ABCDEF\r\nG H");
        Run.of("28, 27 and 30 before each line but the first, in figures").message("12345 6 7890").calls("setWidth(5) = 20;"
            + "encodeWrapped() = 19").tape(29, 1, 2, 3, 4, 5, 28, 27, 30, 29, 6, 28, 27, 30, 29, 7, 8, 9, 0)
            .calls("undo() = 1");
        Run.of("the first line begins without them, whatever is on the tape").punched(0, 1, 2, 3, 27).message("A").calls(
            "setWidth(5) = 20; encodeWrapped() = 6").tape(0, 1, 2, 3, 27, 0);
        Run.of("the page width of the time of the call").message("AB CDE").calls("encodeWrapped() = 6; setWidth(5) = 20;"
            + "encodeWrapped() = 14; setWidth(6) = 5; encodeWrapped() = 20; undo() * 2; setWidth(5) = 5");
    }

    // ---- observations

    private static void observations() {
        Run.of("Without stored observations all four combinations are possible").calls("possibleSettings() = 15")
            .punched(29, 1).calls("possibleSettings() = 15");
        Run.of("The object stores the last 6 observations").punched(1).calls("observe(0, 90) = 1; observe(0, 66) = 2;"
            + "observe(0, 66) = 3; observe(0, 66) = 4; observe(0, 66) = 5; observe(0, 66) = 6; possibleSettings() = 0");
        Run.of("a seventh one replaces the oldest").punched(1).calls("observe(0, 90) = 1; observe(0, 66) * 5 = 6;"
            + "possibleSettings() = 0; observe(0, 66) = 6; possibleSettings() = 5");
        Run.of("a seventh one replaces no other").punched(1).calls("observe(0, 66) = 1; observe(0, 90) = 2; observe(0, 66) * 4 = 6;"
            + "observe(0, 66) = 6; possibleSettings() = 0; observe(0, 66) = 6; possibleSettings() = 5");
        Run.of("a thirteenth one, once round").punched(1).calls("observe(0, 66) * 6 = 6; observe(0, 90) = 6; observe(0, 66) * 5 = 6;"
            + "possibleSettings() = 0; observe(0, 66) = 6; possibleSettings() = 5");
        Run.of("equal observations count each").calls("observe(95, 255) = 1; observe(95, 255) = 2; observe(95, 255) = 3");
        Run.of("it also says that there is such a character: an empty tape").calls("observe(0, 0) = 1; possibleSettings() = 0");
        Run.of("it also says that there is such a character: one too far").punched(26).calls("observe(1, 32) = 1;"
            + "possibleSettings() = 0; punch(26) = 2; possibleSettings() = 15");
        Run.of("the last character of a full tape").calls("punch(27) * 96 = 96; observe(95, 10) = 1; possibleSettings() = 15;"
            + "remove(0) = 27; possibleSettings() = 0");
        Run.of("computed from the tape at the time of the question").calls("observe(0, 66) = 1; possibleSettings() = 0;"
            + "punch(1) = 1; possibleSettings() = 5; flip(0, 1) = 3; possibleSettings() = 0; undo() = 1; possibleSettings() = 5;"
            + "undo() = 0; possibleSettings() = 0");
        Run.of("bit (start case + 2 * option): 0").punched(1, 29, 26, 1).calls("observe(0, 66) = 1; observe(2, 49) = 2;"
            + "possibleSettings() = 1");
        Run.of("bit (start case + 2 * option): 1").punched(1, 29, 26, 1).calls("observe(0, 49) = 1; observe(2, 49) = 2;"
            + "possibleSettings() = 2");
        Run.of("bit (start case + 2 * option): 2").punched(1, 29, 26, 1).calls("observe(0, 66) = 1; observe(2, 66) = 2;"
            + "possibleSettings() = 4");
        Run.of("bit (start case + 2 * option): 3").punched(1, 29, 26, 1).calls("observe(0, 49) = 1; observe(2, 66) = 2;"
            + "possibleSettings() = 8");
        Run.of("the object's own start case and option are of no account").punched(1, 29, 26, 1).calls("setStartCase(1) = 0;"
            + "setUnshiftOnSpace(1) = 0; observe(0, 66) = 1; observe(2, 49) = 2; possibleSettings() = 1");
        Run.of("Nothing but a new observation changes the stored ones").punched(1).calls("observe(0, 66) = 1; save(0) = 1;"
            + "punch(2) = 2; undo() = 1; restore(0) = 1; clearMessage() = 0; observe(96, 0) = BAD_VALUE;"
            + "observe(0, 256) = BAD_VALUE; possibleSettings() = 5; observe(0, 66) = 2");
    }

    // ---- scripts

    private static void scriptDigits() {
        Run.of("1 command, at most 3 digits").calls("runScript(1, 100) = NONE; runScript(1, 999) = 0; runScript(1, 1000) = BAD_VALUE;"
            + "runScript(1, 1100) = BAD_VALUE; runScript(1, 0) = 0");
        Run.of("2 commands, at most 6 digits").calls("runScript(2, 100100) = NONE; runScript(2, 999999) = 0;"
            + "runScript(2, 1000000) = BAD_VALUE; runScript(2, 1100100) = BAD_VALUE; runScript(2, 100) = 0");
        Run.of("3 commands, at most 9 digits").calls("runScript(3, 100100100) = NONE; runScript(3, 999999999) = 0;"
            + "runScript(3, 1000000000) = BAD_VALUE; runScript(3, 100100) = 0");
        Run.of("4 commands, at most 12 digits").calls("runScript(4, 100100100100) = NONE; runScript(4, 999999999999) = 0;"
            + "runScript(4, 1000000000000) = BAD_VALUE; runScript(4, 100100100) = 0");
        Run.of("1 to 4 commands").calls("runScript(0, 0) = BAD_VALUE; runScript(5, 100100100100) = BAD_VALUE;"
            + "runScript(5, 100100100100100) = BAD_VALUE; runScript(-1, 0) = BAD_VALUE");
        Run.of("0 or more").calls("runScript(1, -1) = BAD_VALUE; runScript(4, -100) = BAD_VALUE; runScript(1, -900) = BAD_VALUE");
        Run.of("the first command is the highest group").calls("runScript(2, 100501) = NONE; runScript(2, 501100) = 0");
        Run.of("the index of the first command that fails: the last of four").calls("runScript(4, 100100100999) = 3");
        Run.of("the index of the first command that fails, not of a later one").calls("runScript(4, 100999100999) = 1;"
            + "runScript(4, 999999999999) = 0; runScript(3, 100100999) = 2");
        Run.of("the copy of an earlier script is gone").calls("runScript(2, 100501) = NONE; runScript(1, 500) = NONE;"
            + "runScript(2, 401100) = NONE; runScript(2, 100600) = 1; runScript(4, 301129126100) = NONE;"
            + "runScript(4, 129126100602) = NONE");
    }

    private static void scriptCommands() {
        Run.of("1 x y: it fails if xy is greater than 31").calls("runScript(1, 100) = NONE; runScript(1, 131) = NONE;"
            + "runScript(1, 132) = 0; runScript(1, 199) = 0");
        Run.of("1 x y: it fails if the tape has 96 codes").calls("punch(0) * 95 = 95; runScript(1, 100) = NONE;"
            + "runScript(2, 100100) = 1; punch(0) = 96; runScript(1, 100) = 0; runScript(2, 200100) = NONE;"
            + "runScript(3, 200100100) = 2; length() = 96");
        Run.of("1 x y: behind the last code").punched(1).calls("runScript(2, 125790) = NONE");
        Run.of("2 x y: it fails if there is no such index").calls("runScript(1, 200) = 0; punch(0) = 1; runScript(1, 200) = NONE;"
            + "runScript(1, 201) = 0; runScript(2, 200200) = 1; runScript(1, 299) = 0");
        Run.of("2 x y: the last index of a full tape").calls("punch(0) * 95; punch(31) = 96; runScript(1, 295) = NONE;"
            + "runScript(2, 295595) = NONE; runScript(2, 294594) = NONE; runScript(1, 296) = 0; runScript(2, 295295) = 1");
        Run.of("2 x y: a code 1 to 31 that is removed is no failure").punched(31, 30, 29, 0).calls("runScript(4, 203202201200) = NONE");
        Run.of("3 0 b: b is 0 or 1").punched(29, 26, 0).calls("runScript(1, 300) = NONE; runScript(1, 301) = NONE;"
            + "runScript(1, 302) = 0; runScript(2, 301602) = 1; runScript(2, 300602) = NONE; runScript(3, 301300602) = NONE");
        Run.of("3 0 b: the middle digit is 0").calls("runScript(1, 310) = 0; runScript(1, 311) = 0; runScript(1, 309) = 0;"
            + "runScript(1, 390) = 0; runScript(1, 399) = 0");
        Run.of("4 0 b: b is 0 or 1").punched(0).calls("runScript(1, 400) = NONE; runScript(1, 401) = NONE;"
            + "runScript(1, 402) = 0; runScript(2, 401600) = NONE; runScript(2, 400600) = 1; runScript(3, 401400600) = 2");
        Run.of("4 0 b: the middle digit is 0").calls("runScript(1, 410) = 0; runScript(1, 411) = 0; runScript(1, 409) = 0;"
            + "runScript(1, 490) = 0; runScript(1, 499) = 0");
        Run.of("Any other group fails").calls("runScript(1, 0) = 0; runScript(1, 1) = 0; runScript(1, 99) = 0; runScript(1, 800) = 0;"
            + "runScript(1, 801) = 0; runScript(1, 899) = 0; runScript(1, 900) = 0; runScript(1, 999) = 0; runScript(1, 31) = 0");
    }

    private static void scriptTests() {
        Run.of("5 x y: exactly xy characters, none").calls("runScript(1, 500) = NONE; runScript(1, 501) = 0").punched(29, 31)
            .calls("runScript(1, 500) = NONE; runScript(1, 502) = 0");
        Run.of("5 x y: exactly xy characters, 96").calls("punch(0) * 96 = 96; runScript(1, 596) = NONE; runScript(1, 595) = 0;"
            + "runScript(1, 597) = 0; runScript(1, 500) = 0; runScript(1, 599) = 0");
        Run.of("5 x y: exactly, not at least nor at most").punched(0, 0).calls("runScript(1, 501) = 0; runScript(1, 502) = NONE;"
            + "runScript(1, 503) = 0");
        Run.of("6 x y: the code at index xy exists").calls("setStartCase(1) = 0; runScript(1, 600) = 0; punch(0) = 1;"
            + "runScript(1, 600) = NONE; runScript(1, 601) = 0; runScript(1, 699) = 0");
        Run.of("6 x y: the last index of a full tape").calls("punch(29) * 96 = 96; runScript(1, 600) = 0; runScript(1, 601) = NONE;"
            + "runScript(1, 695) = NONE; runScript(1, 696) = 0");
        Run.of("6 x y: decoded in figures case, whatever the code is").punched(29, 31, 26, 30, 30).calls("runScript(1, 600) = 0;"
            + "runScript(1, 601) = NONE; runScript(1, 602) = NONE; runScript(1, 603) = NONE; runScript(1, 604) = 0");
        Run.of("7 x y: the printed text is not empty").calls("runScript(1, 700) = 0; runScript(1, 732) = 0").punched(31)
            .calls("runScript(1, 700) = 0; runScript(1, 731) = 0");
        Run.of("7 x y: its last character, the least and the largest code").punched(27).calls("runScript(1, 710) = NONE;"
            + "runScript(1, 709) = 0; runScript(1, 711) = 0; punch(25) = 2; runScript(1, 790) = NONE; runScript(1, 789) = 0;"
            + "runScript(1, 791) = 0; runScript(1, 710) = 0; runScript(1, 799) = 0");
        Run.of("7 x y: the last character, not the last code").punched(28, 31, 29).calls("runScript(1, 713) = NONE");
        Run.of("7 x y: the last character of a full tape").calls("punch(0) * 95; punch(1) = 96; runScript(1, 766) = NONE;"
            + "runScript(1, 765) = 0; runScript(2, 295765) = NONE");
    }

    // ---- noise

    private static final BigInteger FACTOR = BigInteger.valueOf(6364136223846793005L);
    private static final BigInteger SUMMAND = BigInteger.valueOf(1442695040888963407L);
    private static final BigInteger LONGS = BigInteger.ONE.shiftLeft(64);

    /** How many of n line feeds are others after the noise: every other code prints something else, in both cases. */
    private static int disturbed(int n, long seed, int m) {
        int[] flips = new int[n];
        BigInteger x = BigInteger.valueOf(seed).mod(LONGS);
        for (int step = 0; step < m; step++) {
            x = x.multiply(FACTOR).add(SUMMAND).mod(LONGS);
            int v = x.shiftRight(33).intValueExact();
            flips[v % n] ^= 1 << v / 96 % 5;
        }
        int different = 0;
        for (int flip : flips) {
            different += flip == 0 ? 0 : 1;
        }
        return different;
    }

    private static void noiseSteps() {
        long[] seeds = {Long.MIN_VALUE, Long.MIN_VALUE + 1, -6364136223846793005L, -1, 0, 1, 1442695040888963407L,
            Long.MAX_VALUE - 1, Long.MAX_VALUE};
        for (int n : new int[] {1, 2, 3, 95, 96}) {
            Run run = Run.of("with long overflow, " + n + " codes").calls("punch(27) * " + n + " = " + n);
            for (long seed : seeds) {
                for (int m : new int[] {1, 2, 3, 59, 60}) {
                    run.calls("noise(" + seed + ", " + m + ") = " + disturbed(n, seed, m));
                }
            }
        }
        Run.of("If the tape is empty, the result is 0").calls("noise(0, 1) = 0; noise(" + Long.MIN_VALUE + ", 60) = 0;"
            + "noise(" + Long.MAX_VALUE + ", 60) = 0");
        Run.of("1 to 60 steps").punched(27).calls("noise(1, 0) = BAD_VALUE; noise(1, 1) = 1; noise(1, 60) = " + disturbed(1, 1, 60)
            + "; noise(1, 61) = BAD_VALUE; noise(1, -1) = BAD_VALUE");
        Run.of("noise works on a copy").punched(27, 27).calls("noise(3, 1) = 1; noise(3, 1) = 1; noise(3, 2) = " + disturbed(2, 3, 2))
            .tape(27, 27);
    }

    private static void noiseBits() {
        for (int b = 0; b < 5; b++) {
            int code = 29 ^ 1 << b;
            Run run = Run.of("bit v / 96 % 5: " + b).punched(code, 1, 1, 1);
            for (int other = 0; other < 5; other++) {
                int itself = code == 31 && other < 2 ? 0 : 1;
                // v is a multiple of 96, and so of the number of codes: the first code is flipped
                run.calls("noise(" + seedBefore(96L * other) + ", 1) = " + (itself + (other == b ? 3 : 0)));
            }
        }
        // a shift alone at index i of 96: its flip reaches all codes behind it
        Run last = Run.of("index v % n: 0 to 95 of 96").calls("punch(13) * 96 = 96");
        for (int i : new int[] {0, 1, 94, 95}) {
            last.calls("noise(" + seedBefore(4 * 96 + i) + ", 1) = " + (96 - i));
            last.calls("noise(" + seedBefore(9 * 96 + i) + ", 1) = " + (96 - i));
            last.calls("noise(" + seedBefore(3 * 96 + i) + ", 1) = 1");
        }
        Run few = Run.of("index v % n: n is the number of codes").calls("punch(13) * 95 = 95");
        few.calls("noise(" + seedBefore(4 * 96) + ", 1) = 91; noise(" + seedBefore(4 * 96 + 90) + ", 1) = 1;"
            + "noise(" + seedBefore(4 * 96 + 91) + ", 1) = 95");
        // 2147483647 % 96 is 31 and 2147483647 / 96 % 5 is 1: the null at index 31 becomes a shift to figures
        Run.of("the largest v").calls("punch(31) * 32; punch(1) * 64 = 96; noise(" + seedBefore(Integer.MAX_VALUE) + ", 1) = 64");
    }

    /** The seed whose first step gives the v. */
    private static long seedBefore(long v) {
        BigInteger x = BigInteger.valueOf(v).shiftLeft(33);
        return x.subtract(SUMMAND).multiply(FACTOR.modInverse(LONGS)).mod(LONGS).longValue();
    }

    // ---- slots

    private static void slots() {
        Run.of("a slot with an empty tape is not an empty slot").calls("restore(0) = NOT_POSSIBLE; save(0) = 0; restore(0) = 0;"
            + "editDistance(0) = 0; restore(1) = NOT_POSSIBLE; editDistance(1) = NOT_POSSIBLE; save(1) = 0; restore(1) = 0");
        Run.of("a full tape in a slot").calls("punch(3) * 95; punch(4) = 96; save(1) = 96; remove(0) * 96 = 4; restore(1) = 96;"
            + "codeAt(0) = 3; codeAt(95) = 4; punch(1) = FULL; undo() = NOT_POSSIBLE");
        Run.of("a shorter tape in the slot of a full one").calls("punch(3) * 96 = 96; save(0) = 96; remove(0) * 95; save(0) = 1;"
            + "punch(5) * 2 = 3; restore(0) = 1").tape(3);
        Run.of("The slot keeps its state").punched(1).calls("save(0) = 1; punch(2) = 2; restore(0) = 1; flip(0, 0) = 0;"
            + "setWidth(40) = 20; restore(0) = 1; setWidth(40) = 20; restore(0) = 1").tape(1);
        Run.of("the whole state: start case, option and width").calls("setStartCase(1) = 0; setUnshiftOnSpace(1) = 0;"
            + "setWidth(40) = 20; save(0) = 0; setStartCase(0) = 1; setUnshiftOnSpace(0) = 1; setWidth(5) = 40; save(1) = 0;"
            + "restore(0) = 0; setStartCase(1) = 1; setUnshiftOnSpace(1) = 1; setWidth(40) = 40; restore(1) = 0;"
            + "setStartCase(0) = 0; setUnshiftOnSpace(0) = 0; setWidth(5) = 5");
        Run.of("the message is not in a slot").message("AB").calls("save(0) = 0; clearMessage() = 2; restore(0) = 0; clearMessage() = 0");
        Run.of("restore leaves the message").calls("save(0) = 0").message("AB").calls("restore(0) = 0; clearMessage() = 2");
    }

    private static void distances() {
        Run.of("two empty texts").calls("save(0) = 0; editDistance(0) = 0").punched(29, 31).calls("editDistance(0) = 0");
        Run.of("an empty text and a full one").calls("save(0) = 0; punch(1) * 96 = 96; editDistance(0) = 96; save(1) = 96;"
            + "restore(0) = 0; editDistance(1) = 96");
        Run.of("two full texts without a common character").calls("punch(1) * 96 = 96; save(0) = 96; setStartCase(1) = 0;"
            + "editDistance(0) = 96");
        Run.of("two full texts that are equal").calls("punch(1) * 96 = 96; save(0) = 96; editDistance(0) = 0");
        Run.of("two full texts, one moved by a character").calls("punch(1) * 95; punch(2) = 96; save(0) = 96; remove(95) = 2;"
            + "editDistance(0) = 1; remove(0) = 1; punch(2) = 95; editDistance(0) = 1; punch(2) = 96; editDistance(0) = 1");
        Run.of("an insertion in front, in the middle and at the end").punched(0, 1).calls("save(0) = 2; setWidth(5) = 20;"
            + "restore(0) = 2; punch(2) = 3; editDistance(0) = 1; undo() = 0; remove(0) = 0; editDistance(0) = 1; undo() = 0;"
            + "remove(1) = 1; editDistance(0) = 1; punch(2) = 2; editDistance(0) = 1; punch(1) = 3; editDistance(0) = 1;"
            + "remove(0) = 0; editDistance(0) = 1");
        Run.of("an exchange of neighbours is two steps").punched(0, 1).calls("save(0) = 2; remove(0) = 0; punch(0) = 2;"
            + "editDistance(0) = 2");
    }

    // ---- the life of an object

    private static void lastCall() {
        Run.of("An object is used for at most 512 calls: the last of them too").calls("punch(1) * 96 = 96;"
            + "punch(1) = FULL; remove(0) * 96 = 1; punch(2) * 96 = 96; remove(0) * 96 = 2; append(49) * 60 = 60;"
            + "append(49) = FULL; observe(95, 255) * 20 = 6; undo() * 14 = 0; undo() = NOT_POSSIBLE;"
            + "punch(29) * 20 = 34; compact() = 20; codeAt(13) = 2; save(1) = 14; restore(1) = 14;"
            + "encodeWrapped() = 75; undo() = 0; encodeMessage() = 75; editDistance(1) = 60; undo() = 0; length() = 14;"
            + "possibleSettings() = 0");
    }
}
