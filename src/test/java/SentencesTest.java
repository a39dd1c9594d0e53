import java.lang.reflect.Method;
import java.lang.reflect.Modifier;
import java.util.ArrayList;
import java.util.Collections;
import java.util.List;
import java.util.StringJoiner;
import java.util.regex.Matcher;
import java.util.regex.Pattern;

/**
 * The document from its first line to its last: every sentence in its own words and order, and with each that asks
 * something of the class, or with the last of several that ask it together, runs that go wrong if it does not hold.
 * {@link Document} sees to it that none is left out.
 */
public final class SentencesTest {
    private static final int MOST = Integer.MAX_VALUE;
    private static final int LEAST = Integer.MIN_VALUE;
    private static final String LETTERS = "ABCDEFGHIJKLMNOPQRSTUVWXYZ";
    private static final String FIGURES = "0123456789-?:().,/='+!&%;$";
    private static final String SIXTY = (LETTERS + LETTERS + LETTERS).substring(0, 60);

    private static final Document doc = new Document();

    private SentencesTest() {
    }

    public static void main(String[] args) {
        whatItIs();
        publicFace();
        theCode();
        state();
        messageBuffer();
        actionsAndUndo();
        thePage();
        overstriking();
        lostCodes();
        corruptedCodes();
        confidence();
        compacting();
        repairing();
        wrappedMessages();
        observing();
        scripts();
        scriptCommands();
        randomNoise();
        errors();
        examples();
        constants();
        promisesOfTheMessage();
        promisesOfReading();
        promisesOfEncoding();
        promisesOfChanging();
        promisesOfSettings();
        promisesOfThePage();
        promisesOfLoss();
        promisesOfScriptsAndObservations();
        promiseOfNoise();
        promisesOfSlots();
        notPromised();
        doc.ends();
        Run.finish();
    }

    // ---- what it is, and its face

    private static void whatItIs() {
        doc.tells("# TeleprinterTape ## What it is");
        doc.tells("A paper tape of a five-bit teleprinter code with letter and figure shifts (similar to Baudot/ITA2): encoding"
            + " and decoding, a page printer, the effect of lost or corrupted codes, repair of a tape, and comparison of tapes.");
        doc.says("An object is used for at most 512 calls after it has been made;").calls("punch(1) * 96 = 96;"
            + "remove(0) * 96 = 1; punch(2) * 96 = 96; remove(0) * 96 = 2; punch(3) * 96 = 96; undo() * 14 = 0; length() * 17 = 82;"
            + "codeAt(81) = 3");
        doc.tells("what later calls answer is free.");
    }

    private static void publicFace() {
        doc.tells("## The public face ```java public final class TeleprinterTape {");
        List<String> written = new ArrayList<>();
        for (String member : doc.upTo("} ```").split(";\\s*")) {
            // the class file does not tell the names of the parameters
            written.add(member.replaceAll("\\b(int|long) \\w+(?=[,)])", "$1"));
        }
        doc.holds("is public and final", Modifier.isFinal(TeleprinterTape.class.getModifiers())
            && Modifier.isPublic(TeleprinterTape.class.getModifiers()));
        List<String> visible = visibleMembers();
        Collections.sort(written);
        Collections.sort(visible);
        doc.holds("the members are those of the document: " + visible, visible.equals(written));
    }

    private static List<String> visibleMembers() {
        List<String> members = new ArrayList<>();
        members.add("public static final int NO_SUCH_INDEX = " + TeleprinterTape.NO_SUCH_INDEX);
        members.add("public static final int BAD_VALUE = " + TeleprinterTape.BAD_VALUE);
        members.add("public static final int NOT_POSSIBLE = " + TeleprinterTape.NOT_POSSIBLE);
        members.add("public static final int FULL = " + TeleprinterTape.FULL);
        members.add("public static final int NONE = " + TeleprinterTape.NONE);
        doc.holds("no other constant", TeleprinterTape.class.getFields().length == 5);
        doc.holds("no other constructor", TeleprinterTape.class.getDeclaredConstructors().length == 1);
        members.add("public TeleprinterTape()");
        for (Method method : TeleprinterTape.class.getDeclaredMethods()) {
            if (!Modifier.isPrivate(method.getModifiers())) {
                members.add("public " + signature(method));
            }
        }
        return members;
    }

    private static String signature(Method method) {
        StringJoiner types = new StringJoiner(", ", method.getReturnType() + " " + method.getName() + "(", ")");
        for (Class<?> type : method.getParameterTypes()) {
            types.add(type.getName());
        }
        return types.toString();
    }

    // ---- description: the code and the state

    private static void theCode() {
        doc.tells("## Description THE CODE");
        doc.says("A code is an int from 0 to 31.").calls("punch(32) = BAD_VALUE; punch(-1) = BAD_VALUE; punch(31) = 1; punch(0) = 2")
            .tape(31, 0);
        doc.says("The decoder is in one of two cases: letters (0) or figures (1).").punched(29, 30, 0).cases("010")
            .calls("setStartCase(1) = 0").cases("110");
        Run both = doc.says("Codes 0 to 25 print a character that depends on the case.");
        for (int code = 0; code < 26; code++) {
            both.punched(code);
        }
        for (int code = 0; code < 26; code++) {
            both.calls("setStartCase(0)");
            int inLetters = both.ask("printedAt", code);
            both.calls("setStartCase(1)");
            doc.holds("code " + code, inLetters != both.ask("printedAt", code));
        }
        Run letters = doc.says("In letters case code k prints the k-th letter of ABCDEFGHIJKLMNOPQRSTUVWXYZ, counted from 0.");
        for (int code = 0; code < 26; code++) {
            letters.punched(code);
        }
        letters.prints(LETTERS);
        Run figures = doc.says("In figures case code k prints the k-th character of 0123456789-?:().,/='+!&%;$, counted from 0.");
        figures.punched(29);
        for (int code = 0; code < 26; code++) {
            figures.punched(code);
        }
        figures.prints(FIGURES);
        doc.says("Code 26 is a space, code 27 is a line feed and code 28 is a carriage return, in both cases.")
            .punched(26, 27, 28, 29, 26, 27, 28).prints(" \n\r \n\r").cases("0000111");
        doc.says("They count as printed characters with the character codes 32, 10 and 13.").punched(26, 27, 28).calls(
            "printedLength() = 3; printedAt(0) = 32; printedAt(1) = 10; printedAt(2) = 13");
        doc.says("Code 29 switches the decoder to figures case.").punched(29, 0, 29, 0).cases("0111").prints("00");
        doc.says("Code 30 switches it to letters case.").calls("setStartCase(1) = 0").punched(30, 0, 30, 0).cases("1000").prints("AA");
        doc.says("Code 31 is a null.").punched(31, 0, 29, 31, 0).cases("00011").prints("A0");
        doc.says("These three codes print nothing.").punched(29, 30, 31, 29, 31).prints("");
        doc.says("Codes 29 and 30 are called shift codes.").punched(29, 30, 29, 30, 29, 30, 29, 30, 29, 31, 26, 27, 28, 0).calls(
            "confidenceNumerator(13, 0) = 1; flip(9, 0) = 30; confidenceNumerator(13, 0) = NOT_POSSIBLE; flip(9, 0) = 31;"
            + "flip(9, 1) = 29; confidenceNumerator(13, 0) = NOT_POSSIBLE");
        doc.says("If the option \"unshift on space\" is on, the decoder switches to letters case after each space that it decodes.")
            .punched(29, 26, 0, 29, 27, 28, 31, 25, 26, 0, 26, 29, 0).cases("0111111111111").calls("setUnshiftOnSpace(1) = 0")
            .cases("0100111110001").prints(" A\n\r$ A 0");
    }

    private static void state() {
        doc.tells("STATE");
        doc.says("The state of the object consists of the tape, the start case, the option \"unshift on space\" and the page width.")
            .calls("save(0) = 0; punch(3) = 1; setStartCase(1) = 0; setUnshiftOnSpace(1) = 0; setWidth(9) = 20; save(1) = 1;"
                + "restore(0) = 0; setWidth(20) = 20; setUnshiftOnSpace(0) = 0; setStartCase(0) = 0; length() = 0; restore(1) = 1;"
                + "setWidth(20) = 9; setUnshiftOnSpace(0) = 1; setStartCase(0) = 1").tape(3);
        doc.again().calls("punch(3) = 1; setStartCase(1) = 0; setUnshiftOnSpace(1) = 0; setWidth(9) = 20; undo() = 3; undo() = 2;"
            + "undo() = 1; undo() = 0; length() = 0; setStartCase(1) = 0; setUnshiftOnSpace(1) = 0; setWidth(9) = 20");
        doc.says("The tape is a sequence of at most 96 codes;").calls("punch(7) * 96 = 96; punch(7) = FULL; length() = 96");
        doc.says("the first code has index 0.").punched(9, 8).calls("codeAt(0) = 9; codeAt(1) = 8; codeAt(2) = NO_SUCH_INDEX");
        doc.says("Decoding the tape means to start in the start case and to decode all codes in order.").punched(1, 29, 1, 30, 1)
            .cases("00110").prints("B1B").calls("setStartCase(1) = 0").cases("11110").prints("11B");
        doc.says("The printed text is the sequence of the printed characters.").punched(31, 7, 29, 26, 30, 8, 31).prints("H I");
        doc.says("A new object has an empty tape, start case letters, the option off and page width 20.").tape().prints("").calls(
            "cell(0, 19) = 0; cell(0, 20) = NO_SUCH_INDEX; setStartCase(1) = 0; setUnshiftOnSpace(1) = 0; setWidth(5) = 20");
    }

    // ---- description: message, actions

    private static void messageBuffer() {
        doc.tells("MESSAGE BUFFER");
        doc.says("The object also has a message buffer of at most 60 characters.").message(SIXTY).calls("append(65) = FULL;"
            + "encodeMessage() = 60").prints(SIXTY).calls("clearMessage() = 60");
        doc.tells("A character is encodable if some code prints it in letters case or in figures case.");
        String printed = LETTERS + FIGURES + " \n\r";
        for (int c = 0; c <= 255; c++) {
            String answers = printed.indexOf(c) >= 0 ? "errorPosition() = NONE" : "errorPosition() = 0";
            doc.again().calls("append(" + c + ") = 1; " + answers);
        }
        doc.says("To encode a character means to append codes to the tape: if the character is printed only in the case in which the"
            + " decoder is not after all codes of the tape so far, then the shift code to that case is appended first;")
            .punched(29, 31).message("7H7").calls("encodeMessage() = 7").tape(29, 31, 7, 30, 7, 29, 7);
        doc.again().message("0A$Z").calls("encodeMessage() = 8; setStartCase(1) = 0; encodeMessage() = 16")
            .tape(29, 0, 30, 0, 29, 25, 30, 25, 29, 0, 30, 0, 29, 25, 30, 25);
        doc.again().punched(29).message(" \n\r").calls("encodeMessage() = 4; setStartCase(1) = 0; encodeMessage() = 7")
            .tape(29, 26, 27, 28, 26, 27, 28);
        doc.again().calls("setUnshiftOnSpace(1) = 0").punched(29, 26).message("1 1A").calls("encodeMessage() = 9")
            .tape(29, 26, 29, 1, 26, 29, 1, 30, 0);
        doc.says("then the code of the character is appended.").message("\n\rA Z").calls("encodeMessage() = 5")
            .tape(27, 28, 0, 26, 25);
    }

    private static void actionsAndUndo() {
        doc.tells("ACTIONS AND UNDO");
        doc.says("The methods in the section \"actions\" change the state.").calls("punch(1) = 1; append(49) = 1;"
            + "encodeMessage() = 3; encodeWrapped() = 4; remove(0) = 1; flip(0, 1) = 31; compact() = 1; setStartCase(1) = 0;"
            + "setUnshiftOnSpace(1) = 0; setWidth(5) = 20; setWidth(6) = 5; setUnshiftOnSpace(0) = 1; setStartCase(0) = 1;"
            + "remove(0) = 1; repair() = 1; undo() = 13").tape(1);
        Run equal = doc.says("Each successful call of one of them is an action, even if the state stays equal.").calls("punch(26) = 1;"
            + "compact() = 0; encodeMessage() = 1; encodeWrapped() = 1; setStartCase(0) = 0; setUnshiftOnSpace(0) = 0;"
            + "setWidth(20) = 20; append(32) = 1; repair() = 0; undo() = 7; undo() * 7 = 0");
        equal.tape();
        doc.says("The object remembers the state before each of the last 14 actions;").calls("punch(1) * 14 = 14; undo() = 13;"
            + "length() = 13; undo() * 13 = 0; length() = 0; undo() = NOT_POSSIBLE");
        doc.again().punched(29, 0).message("0").calls("encodeMessage() = 3; encodeWrapped() = 4; remove(0) = 29; flip(0, 0) = 1;"
            + "compact() = 0; setStartCase(1) = 0; setUnshiftOnSpace(1) = 0; setWidth(9) = 20; punch(31) = 4; undo() = 10")
            .tape(1, 0, 0).calls("undo() = 9; cell(0, 19) = 0; undo() = 8").tape(1, 0, 0).calls("undo() = 7; caseAt(0) = 0")
            .tape(1, 0, 0).calls("undo() = 6").tape(1, 0, 0).calls("undo() = 5").tape(0, 0, 0).calls("undo() = 4").tape(29, 0, 0, 0)
            .calls("undo() = 3").tape(29, 0, 0).calls("undo() = 2").tape(29, 0);
        doc.says("when a fifteenth action happens, the oldest remembered state is forgotten.").calls("punch(1) * 15 = 15; undo() = 13;"
            + "undo() * 13 = 0; length() = 1; undo() = NOT_POSSIBLE; length() = 1");
        doc.says("The message buffer, the observations and the save slots are not part of the state.").calls("punch(1) = 1;"
            + "save(0) = 1; append(65) = 1; observe(0, 66) = 1; undo() = 0; append(65) = 2; observe(0, 66) = 2; restore(0) = 1;"
            + "clearMessage() = 2; observe(0, 66) = 3; save(1) = 1; restore(0) = 1; restore(1) = 1; clearMessage() = 0;"
            + "possibleSettings() = 5");
        doc.says("A call that returns an error changes nothing and is not an action.").punched(29, 1).message("a").calls(
            "punch(32) = BAD_VALUE; encodeMessage() = NOT_POSSIBLE; encodeWrapped() = NOT_POSSIBLE; remove(2) = NO_SUCH_INDEX;"
            + "flip(2, 0) = NO_SUCH_INDEX; flip(0, 5) = BAD_VALUE; repair() = NOT_POSSIBLE; setStartCase(2) = BAD_VALUE;"
            + "setUnshiftOnSpace(-1) = BAD_VALUE; setWidth(41) = BAD_VALUE; append(256) = BAD_VALUE; observe(96, 0) = BAD_VALUE;"
            + "restore(0) = NOT_POSSIBLE; save(2) = NO_SUCH_INDEX; restore(2) = NO_SUCH_INDEX").tape(29, 1).calls(
            "possibleSettings() = 15; undo() = 1; undo() = 0; undo() = NOT_POSSIBLE; clearMessage() = 1; setStartCase(0) = 0;"
            + "setUnshiftOnSpace(0) = 0; setWidth(20) = 20");
        doc.says("undo and restore change the state, but they are not actions.").calls("punch(1) * 3 = 3; undo() = 2; length() = 2;"
            + "undo() = 1; length() = 1; save(0) = 1; punch(2) = 2; restore(0) = 1; length() = 1; undo() = NOT_POSSIBLE");
        doc.says("All other methods do not change the state.").punched(29, 26, 1).calls("append(65) = 1; errorPosition() = NONE;"
            + "clearMessage() = 1; length() = 3; codeAt(0) = 29; caseAt(2) = 1; printedLength() = 2; printedAt(1) = 49;"
            + "cell(0, 1) = 49; overstrikes() = 0; damageIfLost(0) = 1; damageIfFlipped(0, 0) = 2; confidenceNumerator(2, 5) = 1;"
            + "confidenceDenominator(2, 5) = 2; runScript(4, 301401200131) = NONE; observe(0, 32) = 1; possibleSettings() = 15;"
            + "noise(7, 60); save(0) = 3; editDistance(0) = 0").tape(29, 26, 1).cases("011").calls("undo() = 2; undo() = 1;"
            + "undo() = 0; setWidth(20) = 20; setStartCase(0) = 0; setUnshiftOnSpace(0) = 0");
    }

    // ---- description: the page

    private static void thePage() {
        doc.tells("THE PAGE");
        doc.says("The page printer has 8 rows, numbered 0 to 7, and as many columns as the page width, numbered from 0.").calls(
            "cell(0, 0) = 0; cell(7, 19) = 0; cell(8, 0) = NO_SUCH_INDEX; cell(-1, 0) = NO_SUCH_INDEX; cell(0, 20) = NO_SUCH_INDEX;"
            + "cell(0, -1) = NO_SUCH_INDEX; setWidth(40) = 20; cell(7, 39) = 0; cell(7, 40) = NO_SUCH_INDEX; setWidth(5) = 40;"
            + "cell(7, 4) = 0; cell(7, 5) = NO_SUCH_INDEX");
        doc.says("The page is the result of printing the printed text on an empty page, beginning at row 0 and column 0.")
            .calls("setWidth(5) = 20").punched(29, 0, 30, 1).row(0, "0B___").row(1, "_____").calls("remove(3) = 1").row(0, "0____");
        doc.says("An empty cell holds 0.").punched(26).calls("cell(0, 0) = 32; cell(0, 1) = 0; cell(7, 19) = 0");
        doc.says("A carriage return moves to column 0 of the same row.").calls("setWidth(5) = 20").punched(27, 0, 1, 28, 2)
            .row(0, "_____").row(1, "CB___").row(2, "_____");
        doc.says("A line feed moves to the next row and keeps the column;").calls("setWidth(5) = 20").punched(0, 27, 1, 27, 2)
            .row(0, "A____").row(1, "_B___").row(2, "__C__");
        Run up = doc.says("if the printer is in row 7, all rows move up by one instead: the content of row 0 is lost and row 7"
            + " becomes empty.").calls("setWidth(5) = 20").punched(0, 28, 27, 1, 28, 27, 27, 27, 27, 27, 27, 2);
        up.row(0, "A____").row(1, "B____").row(7, "C____").punched(27).row(0, "B____").row(1, "_____").row(6, "C____");
        up.row(7, "_____").punched(3).row(7, "_D___").punched(27).row(0, "_____").row(5, "C____").row(6, "_D___").row(7, "_____");
        doc.says("Every other character, a space too, is stored in the present cell and replaces what is there.")
            .calls("setWidth(5) = 20").punched(0, 1, 2, 28, 26, 29, 25).row(0, " $C__");
        doc.says("After that the column grows by 1, unless it is the last column: then it stays, so that the next character is"
            + " stored in the same cell.").calls("setWidth(5) = 20").punched(0, 1, 26, 3, 4).row(0, "AB DE").punched(5, 6)
            .row(0, "AB DG").row(1, "_____").calls("setWidth(6) = 5; cell(0, 4) = 69; cell(0, 5) = 71");
    }

    private static void overstriking() {
        doc.says("An overstrike is the storing of a character other than a space in a cell that already holds a character other than"
            + " a space;").punched(0, 28, 0).calls("overstrikes() = 1").punched(28, 26).calls("overstrikes() = 1").punched(28, 1)
            .calls("overstrikes() = 1").punched(28, 2, 28, 3).calls("overstrikes() = 3; cell(0, 0) = 68");
        doc.again().punched(26, 28, 26, 28, 26).calls("overstrikes() = 0");
        doc.says("an empty cell holds no character.").punched(0, 1, 27, 2, 28, 3).calls("overstrikes() = 0");
        doc.says("All overstrikes while the printed text is printed count, also those in rows that have moved up or are lost at the"
            + " end.").punched(0, 28, 1).calls("punch(27) * 7 = 10; overstrikes() = 1; punch(27) = 11; overstrikes() = 1; punch(28);"
            + "punch(2); punch(28); punch(3) = 15; overstrikes() = 2; punch(27) = 16; overstrikes() = 2; cell(6, 0) = 68");
    }

    // ---- description: lost and corrupted codes

    private static void lostCodes() {
        doc.tells("LOST AND CORRUPTED CODES");
        doc.says("The damage of losing the code at index i is the number of codes from 0 to 25 at indexes greater than i that are"
            + " decoded in another case than now if the code at index i is removed from the tape.")
            .punched(0, 29, 0, 25, 26, 27, 28, 31, 29, 2, 30, 3).calls("damageIfLost(0) = 0; damageIfLost(1) = 2; damageIfLost(4) = 0;"
            + "damageIfLost(7) = 0; damageIfLost(8) = 0; damageIfLost(10) = 1; damageIfLost(11) = 0; setStartCase(1) = 0;"
            + "damageIfLost(1) = 0; damageIfLost(10) = 1");
        doc.again().punched(29, 0, 26, 0, 0).calls("damageIfLost(0) = 3; damageIfLost(2) = 0; setUnshiftOnSpace(1) = 0;"
            + "damageIfLost(0) = 1; damageIfLost(2) = 2");
        doc.says("The lost code itself does not count.").punched(29, 3, 30, 3).calls("damageIfLost(1) = 0; damageIfLost(3) = 0;"
            + "damageIfLost(0) = 1; damageIfLost(2) = 1");
    }

    private static void corruptedCodes() {
        doc.tells("The damage of flipping bit b (0 to 4) of the code at index i is the number of indexes j of the tape, from i on, for"
            + " which the following differs between the tape and the tape with the code at index i replaced by code XOR (1 shifted"
            + " left by b): what the code at index j prints, either a character or nothing.");
        // each bit of the shift to figures: 28 prints, 31 does not, 25, 21 and 13 print; behind it two codes change their case
        doc.again().punched(0, 29, 0, 26, 1).calls("damageIfFlipped(1, 0) = 3; damageIfFlipped(1, 1) = 2; damageIfFlipped(1, 2) = 3;"
            + "damageIfFlipped(1, 3) = 3; damageIfFlipped(1, 4) = 3; damageIfFlipped(0, 0) = 1; damageIfFlipped(4, 0) = 1");
        // a null that becomes a shift to letters prints nothing, as before
        doc.again().punched(31, 0).calls("damageIfFlipped(0, 0) = 0; damageIfFlipped(0, 1) = 1; setStartCase(1) = 0;"
            + "damageIfFlipped(0, 0) = 1; damageIfFlipped(0, 1) = 0; damageIfFlipped(0, 2) = 1");
        // a line feed that becomes a space
        doc.again().punched(29, 27, 0, 0).calls("damageIfFlipped(1, 0) = 1; setUnshiftOnSpace(1) = 0; damageIfFlipped(1, 0) = 3");
    }

    private static void confidence() {
        doc.says("The confidence at index i is the probability that the code at index i is decoded in the same case as it is now, if"
            + " each shift code at an index below i is lost with probability x / 10 (x from 0 to 10), independently of the others.")
            .punched(0, 29, 30, 29, 29, 0).calls(confidence(0, 3, 1, 1) + confidence(1, 3, 1, 1) + confidence(2, 3, 7, 10)
            + confidence(3, 3, 79, 100) + confidence(4, 3, 763, 1000) + confidence(5, 3, 9289, 10000) + confidence(5, 0, 1, 1)
            + confidence(5, 10, 0, 1) + confidence(3, 10, 1, 1));
        // the space makes the case sure, whatever was lost before it, and is no shift code itself
        doc.again().punched(29, 26, 0, 29, 0).calls("setUnshiftOnSpace(1) = 0;" + confidence(1, 4, 3, 5) + confidence(2, 4, 1, 1)
            + confidence(4, 4, 3, 5) + confidence(2, 10, 1, 1) + confidence(4, 10, 0, 1));
        doc.again().calls("setStartCase(1) = 0").punched(29, 30, 30, 0).calls(confidence(1, 9, 1, 1) + confidence(2, 9, 1, 10)
            + confidence(3, 9, 19, 100));
    }

    private static String confidence(int i, int x, int numerator, int denominator) {
        String question = "(" + i + ", " + x + ") = ";
        return "confidenceNumerator" + question + numerator + "; confidenceDenominator" + question + denominator + "; ";
    }

    // ---- description: redundant codes, repair, wrapped messages

    private static void compacting() {
        doc.tells("REDUNDANT CODES AND REPAIR");
        doc.tells("Compacting the tape works as follows.");
        doc.says("Start with index 0.").punched(30, 0).calls("compact() = 1").tape(0);
        doc.says("If the code at the index is a null or a shift code and the printed text would be the same without it, remove it and"
            + " look at the same index again;").punched(31, 31, 30, 29, 29, 1, 30, 29, 2, 31, 26, 29, 30, 3).calls("compact() = 8")
            .tape(29, 1, 2, 26, 30, 3).prints("12 D");
        doc.again().calls("setUnshiftOnSpace(1) = 0").punched(29, 26, 30, 0).calls("compact() = 2").tape(26, 0);
        doc.again().calls("setStartCase(1) = 0").punched(29, 0, 30, 0).calls("compact() = 1").tape(0, 30, 0);
        doc.says("otherwise go to the next index.").punched(29, 1, 27, 28, 26, 25, 30, 0, 30).calls("compact() = 1")
            .tape(29, 1, 27, 28, 26, 25, 30, 0);
        doc.says("Stop behind the last code.").punched(0, 29, 31).calls("compact() = 2").tape(0).calls("compact() = 0").tape(0);
    }

    private static void repairing() {
        doc.says("A repair of the tape for the message is a set of shift codes to insert such that afterwards the printed text is equal"
            + " to the message.").punched(1, 26, 1, 1, 27, 1).message("1 1B\nB").calls("repair() = 2").prints("1 1B\nB");
        doc.says("The codes of the tape stay and keep their order.").punched(30, 31, 1, 30, 30, 1, 29, 2).message("11C").calls(
            "repair() = 3").tape(30, 31, 29, 1, 30, 30, 29, 1, 29, 30, 2);
        doc.says("A repair is possible only if such a set exists.").punched(1, 26).message("1").calls("repair() = NOT_POSSIBLE;"
            + "append(10) = 2; repair() = NOT_POSSIBLE; clearMessage() = 2; append(50) = 1; append(32) = 2; repair() = NOT_POSSIBLE;"
            + "clearMessage() = 2; append(49) = 1; append(32) = 2; append(32) = 3; repair() = NOT_POSSIBLE; clearMessage() = 3;"
            + "repair() = NOT_POSSIBLE; append(98) = 1; append(32) = 2; repair() = NOT_POSSIBLE").tape(1, 26);
        doc.says("The minimal repair inserts as few shift codes as possible, and each of them directly before the code from 0 to 25"
            + " that needs it.").punched(26, 31, 1, 26, 31, 2, 27, 3).message(" 1 2\nD").calls("repair() = 2")
            .tape(26, 31, 29, 1, 26, 31, 2, 27, 30, 3);
        doc.again().calls("setUnshiftOnSpace(1) = 0").punched(1, 26, 1, 26, 1).message("1 1 B").calls("repair() = 2")
            .tape(29, 1, 26, 29, 1, 26, 1);
        doc.again().calls("setStartCase(1) = 0").punched(0, 25).message("0Z").calls("repair() = 1").tape(0, 30, 25);
        doc.says("(There is at most one such repair.)").punched(1, 1).message("11").calls("repair() = 1").tape(29, 1, 1)
            .calls("undo() = 2; repair() = 1").tape(29, 1, 1).calls("repair() = 0").tape(29, 1, 1);
    }

    private static void wrappedMessages() {
        doc.tells("WRAPPED MESSAGES");
        doc.says("The words of the message are the longest runs of characters other than space, line feed and carriage return.")
            .message("\r A,B\n\nC\r\rD  E \n").calls("encodeWrapped() = 11").prints("A,B C D E");
        doc.says("A wrapped message of width w is the lines that come from the words in order: a word goes on the present line behind a"
            + " space if the line is not empty and then has at most w characters;").message("AB CD EF GHI").calls("setWidth(5) = 20;"
            + "encodeWrapped() = 16").prints("AB CD\r\nEF\r\nGHI");
        doc.again().message("A B C D").calls("setWidth(6) = 20; encodeWrapped() = 9; undo() = 1; setWidth(7) = 6; encodeWrapped() = 7")
            .prints("A B C D");
        doc.says("otherwise it begins a new line, unless the present line is the empty first line.").message("ABCDEF GHIJK L").calls(
            "setWidth(5) = 20; encodeWrapped() = 18").prints("ABCDEF\r\nGHIJK\r\nL");
        // the first line is empty whatever stands on the tape already
        doc.again().punched(0, 1, 2, 3).message("ABC").calls("setWidth(5) = 20; encodeWrapped() = 7").prints("ABCDABC");
        doc.says("A word longer than w is not divided.").message(SIXTY).calls("setWidth(5) = 20; encodeWrapped() = 60").prints(SIXTY);
    }

    // ---- description: observations, scripts, noise

    private static void observing() {
        doc.tells("OBSERVATIONS");
        doc.says("Suppose that the start case and the option \"unshift on space\" are unknown.").punched(1, 29, 26, 1).calls(
            "observe(0, 66) = 1; observe(2, 66) = 2; possibleSettings() = 4; setStartCase(1) = 0; possibleSettings() = 4;"
            + "setUnshiftOnSpace(1) = 0; possibleSettings() = 4");
        doc.says("An observation (i, c) says that the i-th character, counted from 0, of the printed text of the present tape is c;")
            .punched(31, 1, 29, 2).calls("observe(0, 66) = 1; possibleSettings() = 5; observe(1, 50) = 2; possibleSettings() = 5;"
            + "observe(1, 67) = 3; possibleSettings() = 0");
        doc.says("it also says that there is such a character.").punched(26).calls("observe(1, 0) = 1; possibleSettings() = 0");
        doc.says("The object stores the last 6 observations;").punched(1).calls("observe(0, 67) = 1; observe(0, 66) = 2;"
            + "observe(0, 66) = 3; observe(0, 66) = 4; observe(0, 66) = 5; observe(0, 66) = 6; possibleSettings() = 0");
        doc.says("a seventh one replaces the oldest.").punched(1).calls("observe(0, 67) = 1; observe(0, 66) * 5 = 6;"
            + "possibleSettings() = 0; observe(0, 66) = 6; possibleSettings() = 5; observe(0, 67) = 6; observe(0, 66) * 5 = 6;"
            + "possibleSettings() = 0; observe(0, 66) = 6; possibleSettings() = 5");
        doc.says("A combination of a start case and an option is possible if all stored observations hold for it, computed from the"
            + " tape at the time of the question.").calls("observe(0, 66) = 1; observe(2, 49) = 2; possibleSettings() = 0")
            .punched(1, 26, 1).calls("possibleSettings() = 0").punched(29, 1).calls("remove(2) = 1; possibleSettings() = 5; undo() = 5;"
            + "possibleSettings() = 0");
        doc.says("Without stored observations all four combinations are possible.").calls("possibleSettings() = 15").punched(1)
            .calls("possibleSettings() = 15");
        doc.says("Nothing but a new observation changes the stored observations.").punched(1).calls("observe(0, 66) = 1; save(0) = 1;"
            + "append(66) = 1; encodeMessage() = 2; encodeWrapped() = 3; compact() = 0; undo() = 3; remove(0) = 1; flip(0, 0) = 0;"
            + "restore(0) = 1; repair() = 0; clearMessage() = 1; setStartCase(1) = 0; setUnshiftOnSpace(1) = 0; setWidth(9) = 20;"
            + "runScript(1, 100) = NONE; noise(1, 9); observe(96, 0) = BAD_VALUE; observe(0, 256) = BAD_VALUE; possibleSettings() = 5;"
            + "observe(0, 66) = 2; possibleSettings() = 5");
    }

    private static void scripts() {
        doc.tells("SCRIPTS");
        doc.says("A script has 1 to 4 commands.").calls("runScript(1, 100) = NONE; runScript(4, 100100100100) = NONE;"
            + "runScript(0, 0) = BAD_VALUE; runScript(5, 100100100100) = BAD_VALUE");
        doc.says("Each command is a group of three decimal digits d1 d2 d3;").calls("runScript(2, 100501) = NONE; runScript(2, 10050) = 0;"
            + "runScript(1, 131) = NONE; runScript(1, 31) = 0");
        doc.says("the first command is the highest group of the number.").calls("runScript(3, 100126502) = NONE;"
            + "runScript(3, 502126100) = 0; runScript(3, 100502126) = 1; runScript(3, 126100502) = NONE");
        doc.says("The commands run on a copy of the state, one after another.").punched(1).calls("runScript(4, 401102502750) = NONE;"
            + "runScript(4, 200301401500) = NONE").tape(1).calls("caseAt(0) = 0; runScript(1, 501) = NONE; setUnshiftOnSpace(0) = 0;"
            + "undo() = 1; undo() = 0");
    }

    private static void scriptCommands() {
        doc.says("1 x y: punch code xy; it fails if xy is greater than 31 or the tape has 96 codes.").calls("runScript(2, 125790) = NONE;"
            + "runScript(1, 131) = NONE; runScript(1, 132) = 0; punch(0) * 95 = 95; runScript(1, 100) = NONE; runScript(2, 100100) = 1;"
            + "punch(0) = 96; runScript(1, 100) = 0; runScript(2, 200100) = NONE");
        doc.says("2 x y: remove the code at index xy; it fails if there is no such index.").calls("runScript(1, 200) = 0;"
            + "punch(0) * 12 = 12; punch(1) = 13; runScript(3, 212765512) = NONE; runScript(1, 213) = 0; runScript(2, 212212) = 1;"
            + "runScript(1, 299) = 0");
        doc.says("3 0 b: set \"unshift on space\" to b, 0 or 1.").punched(29, 26, 0).calls("runScript(2, 301602) = 1;"
            + "runScript(2, 300602) = NONE; setUnshiftOnSpace(1) = 0; runScript(1, 602) = 0; runScript(2, 300602) = NONE;"
            + "runScript(1, 302) = 0; runScript(1, 310) = 0; runScript(1, 311) = 0");
        doc.says("4 0 b: set the start case to b, 0 or 1.").punched(0).calls("runScript(2, 401600) = NONE; runScript(2, 400600) = 1;"
            + "setStartCase(1) = 0; runScript(1, 600) = NONE; runScript(2, 400600) = 1; runScript(1, 402) = 0; runScript(1, 410) = 0;"
            + "runScript(1, 411) = 0");
        doc.says("5 x y: succeeds if the printed text has exactly xy characters.").calls("runScript(1, 500) = NONE; punch(26) * 12 = 12;"
            + "punch(31) = 13; runScript(1, 512) = NONE; runScript(1, 511) = 0; runScript(1, 513) = 0; runScript(1, 502) = 0");
        doc.says("6 x y: succeeds if the code at index xy exists and is decoded in figures case.").calls("setStartCase(1) = 0;"
            + "runScript(1, 600) = 0; punch(31) * 12 = 12; punch(30) = 13; punch(0) = 14; runScript(1, 600) = NONE;"
            + "runScript(1, 612) = NONE; runScript(1, 613) = 0; runScript(1, 614) = 0; runScript(1, 699) = 0");
        doc.says("7 x y: succeeds if the printed text is not empty and its last character has the character code xy.").calls(
            "runScript(1, 700) = 0").punched(31).calls("runScript(1, 700) = 0; runScript(1, 731) = 0").punched(25, 31).calls(
            "runScript(1, 790) = NONE; runScript(1, 789) = 0").punched(28).calls("runScript(1, 713) = NONE; runScript(1, 790) = 0");
        Run others = doc.says("Any other group fails.");
        for (int group = 0; group < 100; group++) {
            others.calls("runScript(1, " + group + ") = 0; runScript(1, " + (800 + group) + ") = 0;"
                + "runScript(1, " + (900 + group) + ") = 0");
        }
        // so long a text that a 5 or a 6 in place of the 3 and the 4 would succeed
        Run middle = doc.again().calls("setStartCase(1) = 0; punch(0) * 95 = 95");
        for (int group = 2; group < 100; group++) {
            middle.calls("runScript(1, " + (300 + group) + ") = 0; runScript(1, " + (400 + group) + ") = 0");
        }
        doc.says("The result of a script is the index, from 0, of the first command that fails, or NONE if all succeed.").calls(
            "runScript(4, 100100100100) = NONE; runScript(4, 900100100100) = 0; runScript(4, 100900900100) = 1;"
            + "runScript(4, 100100900100) = 2; runScript(4, 100100100900) = 3; runScript(4, 100) = 0");
    }

    private static void randomNoise() {
        doc.tells("RANDOM NOISE");
        doc.says("Noise of m steps with a seed (a long) works on a copy of the tape.").punched(27, 27).calls("noise(1, 1) = 1;"
            + "noise(1, 1) = 1").tape(27, 27);
        doc.tells("It has a long x that starts as the seed.");
        doc.tells("Each step first replaces x by x * 6364136223846793005L + 1442695040888963407L (with long overflow) and then computes"
            + " v = (int) (x >>> 33).");
        doc.tells("Then bit v / 96 % 5 of the code at index v % n of the copy is flipped, where n is the number of codes of the tape.");
        long[] seeds = {0, 1, -1, 5, 123456789, Long.MIN_VALUE, Long.MAX_VALUE};
        for (int n : new int[] {1, 2, 7, 95, 96}) {
            Run run = doc.again().calls("punch(27) * " + n + " = " + n);
            for (long seed : seeds) {
                for (int m : new int[] {1, 2, 3, 30, 60}) {
                    run.calls("noise(" + seed + ", " + m + ") = " + noisyLineFeeds(n, seed, m));
                }
            }
        }
        // a bit that turns a code into a shift to figures reaches the codes behind it
        doc.says("The result is the number of indexes for which the copy, after all steps, prints something else (a character or nothing)"
            + " than the tape.").punched(31, 0, 0, 0).calls("noise(" + seedBefore(96) + ", 1) = 3; noise(" + seedBefore(0) + ", 1) = 0;"
            + "noise(" + seedBefore(2 * 96) + ", 1) = 1; noise(" + seedBefore(1) + ", 1) = 1; setStartCase(1) = 0;"
            + "noise(" + seedBefore(96) + ", 1) = 0; noise(" + seedBefore(0) + ", 1) = 3");
        doc.says("If the tape is empty, the result is 0.").calls("noise(0, 1) = 0; noise(-1, 60) = 0; punch(27) = 1; noise(1, 1) = 1;"
            + "remove(0) = 27; noise(1, 1) = 0");
    }

    /** The noise of n line feeds, as the document tells it: every other code prints something else than a line feed. */
    private static int noisyLineFeeds(int n, long seed, int m) {
        int[] copy = new int[n];
        long x = seed;
        for (int step = 0; step < m; step++) {
            x = x * 6364136223846793005L + 1442695040888963407L;
            int v = (int) (x >>> 33);
            copy[v % n] ^= 1 << (v / 96 % 5);
        }
        int others = 0;
        for (int flipped : copy) {
            others += flipped == 0 ? 0 : 1;
        }
        return others;
    }

    /** The seed whose first step gives the v. */
    private static long seedBefore(long v) {
        long inverse = 1;
        for (int i = 0; i < 6; i++) {
            inverse *= 2 - 6364136223846793005L * inverse;
        }
        return ((v << 33) - 1442695040888963407L) * inverse;
    }

    private static void errors() {
        doc.tells("ERRORS");
        doc.says("Methods report errors by the negative constants below.").calls("codeAt(0) = -1; punch(32) = -2; undo() = -3;"
            + "punch(0) * 96 = 96; punch(0) = -4; errorPosition() = -9");
        doc.says("If several errors apply to a call, the one that is listed first in the description of the method is returned.")
            .calls("flip(0, 5) = NO_SUCH_INDEX; damageIfFlipped(0, 5) = NO_SUCH_INDEX; confidenceNumerator(0, 11) = NO_SUCH_INDEX;"
            + "confidenceDenominator(0, 11) = NO_SUCH_INDEX; restore(2) = NO_SUCH_INDEX; editDistance(2) = NO_SUCH_INDEX;"
            + "punch(29) * 96 = 96; punch(32) = BAD_VALUE; confidenceNumerator(95, 11) = BAD_VALUE;"
            + "confidenceDenominator(95, -1) = BAD_VALUE; append(97) * 60 = 60; append(256) = BAD_VALUE; encodeMessage() = NOT_POSSIBLE;"
            + "encodeWrapped() = NOT_POSSIBLE; repair() = NOT_POSSIBLE");
    }

    // ---- examples and constants

    /** The examples are run as they stand in the document. */
    private static void examples() {
        doc.tells("Examples: Each of them begins with a new object; the results are given behind the calls.");
        String[] titles = {"1. A letter and a figure:", "2. A shift that becomes redundant:",
            "3. A repair that is possible, and one that is not:", "4. An overstrike in the last column:",
            "5. Confidence, and scripts:"};
        int[] calls = {9, 9, 7, 10, 6};
        for (int i = 0; i < titles.length; i++) {
            Run run = doc.says(titles[i]);
            String example = doc.upTo(". ");
            doc.holds("has so many calls with answers", count(example, "\\) = -?\\d+") == calls[i]);
            run.calls(example);
        }
    }

    private static int count(String text, String pattern) {
        Matcher found = Pattern.compile(pattern).matcher(text);
        int times = 0;
        while (found.find()) {
            times++;
        }
        return times;
    }

    private static void constants() {
        doc.tells("The constants:");
        doc.says("- `NO_SUCH_INDEX = -1`: There is no such index, slot, row or column.").calls("codeAt(0) = -1; caseAt(0) = -1;"
            + "printedAt(0) = -1; remove(0) = -1; flip(0, 0) = -1; damageIfLost(0) = -1; damageIfFlipped(0, 0) = -1;"
            + "confidenceNumerator(0, 0) = -1; confidenceDenominator(0, 0) = -1; cell(8, 0) = -1; cell(0, 20) = -1; save(2) = -1;"
            + "restore(2) = -1; editDistance(2) = -1");
        doc.says("- `BAD_VALUE = -2`: Another argument is out of its range.").punched(0).calls("append(256) = -2; punch(32) = -2;"
            + "flip(0, 5) = -2; setStartCase(2) = -2; setUnshiftOnSpace(2) = -2; setWidth(4) = -2; damageIfFlipped(0, 5) = -2;"
            + "confidenceNumerator(0, 11) = -2; confidenceDenominator(0, 11) = -2; runScript(0, 0) = -2; runScript(1, -1) = -2;"
            + "observe(96, 0) = -2; observe(0, 256) = -2; noise(0, 0) = -2");
        doc.says("- `NOT_POSSIBLE = -3`: The call is not possible in the present state.").calls("undo() = -3; restore(0) = -3;"
            + "editDistance(0) = -3; append(97) = 1; encodeMessage() = -3; encodeWrapped() = -3; repair() = -3; punch(29) * 11 = 11;"
            + "confidenceNumerator(10, 0) = -3; confidenceDenominator(10, 0) = -3");
        doc.says("- `FULL = -4`: No space is left.").calls("punch(1) * 96 = 96; punch(1) = -4; append(49) = 1; encodeMessage() = -4;"
            + "encodeWrapped() = -4; append(49) * 59 = 60; append(49) = -4; remove(0) * 36 = 1; punch(31) * 36 = 96; repair() = -4");
        doc.says("- `NONE = -9`: There is no such position, or no command failed.").calls("errorPosition() = -9; runScript(1, 500) = -9");
        doc.tells("The constructor and the methods follow, a promise each: the signature, then what it does.");
    }

    // ---- the promises

    /** Reads the heading of a promise, and looks for its method. */
    private static void promise(int number, String name, String signature) {
        doc.tells("## Promise " + number + ": " + name + " `" + signature + "`");
        String types = signature.replaceAll("(int|long) \\w+(?=[,)])", "$1");
        boolean found = false;
        for (Method method : TeleprinterTape.class.getMethods()) {
            found |= signature(method).equals(types);
        }
        doc.holds("there is such a method", found);
    }

    private static void promisesOfTheMessage() {
        doc.tells("## Promise 1: A new object `TeleprinterTape()`");
        doc.says("Creates an empty tape.").tape().prints("");
        promise(2, "append", "int append(int c)");
        doc.tells("---- message buffer");
        doc.says("Appends a character to the message buffer.").calls("append(65); append(49); encodeMessage() = 3").prints("A1");
        doc.says("- `c`: character code, 0 to 255").calls("append(0) = 1; append(255) = 2");
        doc.says("Returns the new length of the message;").calls("append(65) = 1; append(66) = 2; clearMessage() = 2; append(67) = 1");
        doc.says("BAD_VALUE if c is out of range;").calls("append(-1) = BAD_VALUE; append(256) = BAD_VALUE; append(" + MOST
            + ") = BAD_VALUE; append(" + LEAST + ") = BAD_VALUE; append(65) = 1");
        doc.says("FULL if the message already has 60 characters.").calls("append(65) * 59 = 59; append(66) = 60; append(67) = FULL;"
            + "append(256) = BAD_VALUE; encodeMessage() = 60; printedAt(59) = 66");
        promise(3, "clearMessage", "int clearMessage()");
        doc.says("Empties the message buffer.").message("AB").calls("clearMessage(); encodeMessage() = 0; append(67) = 1;"
            + "encodeMessage() = 1").prints("C");
        doc.says("Returns the previous length of the message.").calls("clearMessage() = 0; append(65) * 60 = 60; clearMessage() = 60;"
            + "clearMessage() = 0");
        promise(4, "errorPosition", "int errorPosition()");
        doc.says("Returns the index in the message of the first character that is not encodable;").message("A1 a\n#").calls(
            "errorPosition() = 3");
        doc.again().message(SIXTY.substring(1) + "_").calls("errorPosition() = 59");
        doc.says("NONE if all are encodable.").calls("errorPosition() = NONE").message(LETTERS + FIGURES + " \n\r").calls(
            "errorPosition() = NONE");
    }

    private static void promisesOfReading() {
        promise(5, "length", "int length()");
        doc.tells("---- reading the tape");
        doc.says("Returns the number of codes on the tape.").calls("length() = 0").punched(31, 29, 0).calls("length() = 3;"
            + "remove(0) = 31; length() = 2; undo() = 3; length() = 3");
        promise(6, "codeAt", "int codeAt(int i)");
        doc.says("- `i`: index on the tape").punched(4, 5, 6).calls("codeAt(0) = 4; codeAt(1) = 5; codeAt(2) = 6");
        doc.says("Returns the code; NO_SUCH_INDEX.").punched(31).calls("codeAt(0) = 31; codeAt(1) = NO_SUCH_INDEX;"
            + "codeAt(-1) = NO_SUCH_INDEX; codeAt(" + MOST + ") = NO_SUCH_INDEX; codeAt(" + LEAST + ") = NO_SUCH_INDEX");
        promise(7, "caseAt", "int caseAt(int i)");
        doc.says("- `i`: index on the tape").punched(0).calls("caseAt(0) = 0; caseAt(1) = NO_SUCH_INDEX");
        doc.says("Returns the case of the decoder just before it decodes the code at index i, 0 or 1; NO_SUCH_INDEX.")
            .punched(29, 30, 29, 26).calls("setUnshiftOnSpace(1) = 0; caseAt(0) = 0; caseAt(1) = 1; caseAt(2) = 0; caseAt(3) = 1;"
            + "caseAt(4) = NO_SUCH_INDEX; caseAt(-1) = NO_SUCH_INDEX; caseAt(" + MOST + ") = NO_SUCH_INDEX;"
            + "caseAt(" + LEAST + ") = NO_SUCH_INDEX; setStartCase(1) = 0; caseAt(0) = 1");
        promise(8, "printedLength", "int printedLength()");
        doc.says("Returns the number of characters of the printed text.").calls("printedLength() = 0").punched(31, 0, 29, 26, 30)
            .calls("printedLength() = 2; punch(28) * 91 = 96; printedLength() = 93");
        promise(9, "printedAt", "int printedAt(int i)");
        doc.says("- `i`: index in the printed text").punched(31, 0, 29, 1).calls("printedAt(0) = 65; printedAt(1) = 49");
        doc.says("Returns the character code; NO_SUCH_INDEX.").punched(31, 0).calls("printedAt(0) = 65; printedAt(1) = NO_SUCH_INDEX;"
            + "printedAt(-1) = NO_SUCH_INDEX; printedAt(" + MOST + ") = NO_SUCH_INDEX; printedAt(" + LEAST + ") = NO_SUCH_INDEX");
    }

    private static void promisesOfEncoding() {
        promise(10, "punch", "int punch(int code)");
        doc.tells("---- actions");
        doc.says("Appends a code to the tape.").calls("punch(7); punch(29); punch(7)").tape(7, 29, 7);
        doc.says("- `code`: 0 to 31").calls("punch(0) = 1; punch(31) = 2").tape(0, 31);
        doc.says("Returns the new number of codes;").calls("punch(9) = 1; punch(9) = 2; remove(0) = 9; punch(9) = 2");
        doc.says("BAD_VALUE if code is out of range;").calls("punch(-1) = BAD_VALUE; punch(32) = BAD_VALUE; punch(" + MOST
            + ") = BAD_VALUE; punch(" + LEAST + ") = BAD_VALUE; length() = 0");
        doc.says("FULL if the tape has 96 codes.").calls("punch(1) * 95 = 95; punch(2) = 96; punch(3) = FULL; punch(32) = BAD_VALUE;"
            + "codeAt(95) = 2");
        promise(11, "encodeMessage", "int encodeMessage()");
        doc.says("Encodes all characters of the message in order, behind the codes that are on the tape.").punched(25).message("B1 2\nC")
            .calls("encodeMessage() = 9").tape(25, 1, 29, 1, 26, 2, 27, 30, 2).prints("ZB1 2\nC");
        doc.says("Returns the new number of codes;").message("AB").calls("encodeMessage() = 2; encodeMessage() = 4; clearMessage() = 2;"
            + "encodeMessage() = 4");
        doc.says("NOT_POSSIBLE if some character is not encodable;").message("AB@").calls("encodeMessage() = NOT_POSSIBLE; length() = 0;"
            + "punch(0) * 96 = 96; encodeMessage() = NOT_POSSIBLE");
        doc.says("FULL if the tape would have more than 96 codes.").message("A1").calls("punch(0) * 93 = 93; encodeMessage() = 96;"
            + "undo() = 13; punch(0) = 94; encodeMessage() = FULL; length() = 94; undo() = 13; length() = 93; encodeMessage() = 96");
        promise(12, "encodeWrapped", "int encodeWrapped()");
        doc.says("Encodes the wrapped message of the page width, behind the codes that are on the tape: the characters of a line, one"
            + " space between two words of a line.").punched(29, 0, 0, 0).message("12   3\n45").calls("setWidth(5) = 20;"
            + "encodeWrapped() = 14").tape(29, 0, 0, 0, 1, 2, 26, 3, 28, 27, 30, 29, 4, 5);
        doc.says("Before each line but the first, the codes 28, 27 and 30 are punched, in this order.").message("ABC DEF 1")
            .calls("setWidth(5) = 20; encodeWrapped() = 12").tape(0, 1, 2, 28, 27, 30, 3, 4, 5, 26, 29, 1).calls("undo() = 1;"
            + "clearMessage() = 9").message("12345 6 FGHIJ").calls("encodeWrapped() = 19")
            .tape(29, 1, 2, 3, 4, 5, 28, 27, 30, 29, 6, 28, 27, 30, 5, 6, 7, 8, 9);
        doc.says("If the message has no words, nothing is punched.").punched(29).calls("encodeWrapped() = 1").message(" \r\n").calls(
            "encodeWrapped() = 1").tape(29);
        doc.says("Returns the new number of codes;").message("A B").calls("encodeWrapped() = 3; encodeWrapped() = 6");
        doc.says("NOT_POSSIBLE if some character of the message is not encodable;").message("A @").calls(
            "encodeWrapped() = NOT_POSSIBLE; length() = 0; punch(0) * 96 = 96; encodeWrapped() = NOT_POSSIBLE");
        doc.says("FULL if the tape would have more than 96 codes.").message("ABCDE F").calls("setWidth(5) = 20; punch(0) * 87 = 87;"
            + "encodeWrapped() = 96; undo() = 13; punch(0) = 88; encodeWrapped() = FULL; length() = 88; undo() = 13; length() = 87;"
            + "encodeWrapped() = 96");
    }

    private static void promisesOfChanging() {
        promise(13, "remove", "int remove(int i)");
        doc.says("Removes a code; the codes behind it move down by one index.").punched(1, 2, 3, 4).calls("remove(1)").tape(1, 3, 4)
            .calls("remove(2)").tape(1, 3).calls("remove(0)").tape(3);
        doc.says("- `i`: index on the tape").calls("punch(1) * 95 = 95; punch(2) = 96; remove(95) = 2; length() = 95");
        doc.says("Returns the removed code; NO_SUCH_INDEX.").punched(31, 9).calls("remove(2) = NO_SUCH_INDEX; remove(-1) = NO_SUCH_INDEX;"
            + "remove(" + MOST + ") = NO_SUCH_INDEX; remove(" + LEAST + ") = NO_SUCH_INDEX; remove(0) = 31; remove(0) = 9;"
            + "remove(0) = NO_SUCH_INDEX");
        promise(14, "flip", "int flip(int i, int b)");
        doc.says("Flips a bit of a code.").punched(0, 31, 5).calls("flip(0, 4); flip(1, 0); flip(2, 2)").tape(16, 30, 1)
            .calls("flip(2, 2)").tape(16, 30, 5);
        doc.tells("- `i`: index on the tape");
        doc.says("- `b`: bit, 0 to 4").punched(0, 31).calls("flip(0, 0) = 1; flip(0, 1) = 3; flip(0, 2) = 7; flip(0, 3) = 15;"
            + "flip(0, 4) = 31; flip(1, 0) = 30; flip(1, 1) = 28; flip(1, 2) = 24; flip(1, 3) = 16; flip(1, 4) = 0");
        doc.says("Returns the new code; NO_SUCH_INDEX;").punched(8).calls("flip(0, 3) = 0; flip(0, 3) = 8; flip(1, 0) = NO_SUCH_INDEX;"
            + "flip(-1, 0) = NO_SUCH_INDEX; flip(1, 5) = NO_SUCH_INDEX; flip(" + MOST + ", 0) = NO_SUCH_INDEX;"
            + "flip(" + LEAST + ", 0) = NO_SUCH_INDEX").tape(8);
        doc.says("BAD_VALUE if b is out of range.").punched(8).calls("flip(0, 5) = BAD_VALUE; flip(0, -1) = BAD_VALUE;"
            + "flip(0, 32) = BAD_VALUE; flip(0, " + MOST + ") = BAD_VALUE; flip(0, " + LEAST + ") = BAD_VALUE").tape(8);
        promise(15, "compact", "int compact()");
        doc.says("Compacts the tape.").punched(31, 29, 0, 29, 0, 30).calls("compact()").tape(29, 0, 0).calls("undo() = 6")
            .tape(31, 29, 0, 29, 0, 30);
        doc.says("Returns how many codes were removed.").punched(31, 29, 0, 29, 0, 30).calls("compact() = 3; compact() = 0");
        promise(16, "repair", "int repair()");
        doc.says("Carries out the minimal repair of the tape for the message.").punched(1, 1).message("1B").calls("repair()")
            .tape(29, 1, 30, 1).calls("undo() = 2").tape(1, 1);
        doc.says("Returns how many shift codes were inserted;").punched(1, 1, 1, 1).message("1B1B").calls("repair() = 4; repair() = 0");
        doc.says("NOT_POSSIBLE if no repair is possible;").punched(1, 1).message("B").calls("repair() = NOT_POSSIBLE; append(67) = 2;"
            + "repair() = NOT_POSSIBLE; append(66) = 3; repair() = NOT_POSSIBLE; undo() = 1; length() = 1");
        doc.says("FULL if the tape would have more than 96 codes.").calls("punch(31) * 94 = 94; punch(1) = 95; append(49) = 1;"
            + "repair() = 1; length() = 96; undo() = 13; punch(31) = 96; repair() = FULL; length() = 96; codeAt(94) = 1; undo() = 13;"
            + "length() = 95; repair() = 1");
    }

    private static void promisesOfSettings() {
        promise(17, "setStartCase", "int setStartCase(int v)");
        doc.says("Sets the start case.").punched(0).calls("setStartCase(1); caseAt(0) = 1; setStartCase(0); caseAt(0) = 0");
        doc.says("- `v`: 0 or 1").calls("setStartCase(0) = 0; setStartCase(1) = 0");
        doc.says("Returns the previous start case; BAD_VALUE if v is out of range.").punched(0).calls("setStartCase(1) = 0;"
            + "setStartCase(1) = 1; setStartCase(2) = BAD_VALUE; setStartCase(-1) = BAD_VALUE; caseAt(0) = 1; setStartCase(0) = 1;"
            + "setStartCase(" + MOST + ") = BAD_VALUE; setStartCase(" + LEAST + ") = BAD_VALUE; caseAt(0) = 0; undo() = 3");
        promise(18, "setUnshiftOnSpace", "int setUnshiftOnSpace(int v)");
        doc.says("Switches the option \"unshift on space\".").punched(29, 26, 0).calls("setUnshiftOnSpace(1); caseAt(2) = 0;"
            + "setUnshiftOnSpace(0); caseAt(2) = 1");
        doc.says("- `v`: 1 for on, 0 for off").punched(29, 26, 0).calls("setUnshiftOnSpace(0); caseAt(2) = 1; setUnshiftOnSpace(1);"
            + "caseAt(2) = 0");
        doc.says("Returns 1 if it was on, 0 if it was off; BAD_VALUE if v is out of range.").punched(29, 26, 0).calls(
            "setUnshiftOnSpace(1) = 0; setUnshiftOnSpace(1) = 1; setUnshiftOnSpace(2) = BAD_VALUE; setUnshiftOnSpace(-1) = BAD_VALUE;"
            + "caseAt(2) = 0; setUnshiftOnSpace(0) = 1; setUnshiftOnSpace(" + MOST + ") = BAD_VALUE;"
            + "setUnshiftOnSpace(" + LEAST + ") = BAD_VALUE; caseAt(2) = 1; undo() = 5");
        promise(19, "setWidth", "int setWidth(int w)");
        doc.says("Sets the page width.").calls("setWidth(7); cell(0, 6) = 0; cell(0, 7) = NO_SUCH_INDEX");
        doc.says("- `w`: 5 to 40").calls("setWidth(5) = 20; setWidth(40) = 5; setWidth(6) = 40; setWidth(39) = 6");
        doc.says("Returns the previous width; BAD_VALUE if w is out of range.").calls("setWidth(5) = 20; setWidth(4) = BAD_VALUE;"
            + "setWidth(41) = BAD_VALUE; setWidth(-5) = BAD_VALUE; setWidth(" + MOST + ") = BAD_VALUE; setWidth(" + LEAST
            + ") = BAD_VALUE; setWidth(40) = 5; undo() = 1; setWidth(5) = 5");
        promise(20, "undo", "int undo()");
        doc.says("Takes back the last action that is remembered.").punched(1, 2).calls("flip(0, 1) = 3; undo()").tape(1, 2).calls("undo()")
            .tape(1).calls("punch(5) = 2; undo()").tape(1);
        doc.says("Returns how many states are still remembered;").calls("punch(1) * 20 = 20; undo() = 13; undo() = 12; punch(1) = 19;"
            + "undo() = 12; undo() * 12 = 0");
        doc.says("NOT_POSSIBLE if none is remembered.").calls("undo() = NOT_POSSIBLE; punch(1) = 1; undo() = 0; undo() = NOT_POSSIBLE;"
            + "punch(1) = 1; save(0) = 1; restore(0) = 1; undo() = NOT_POSSIBLE; length() = 1");
    }

    private static void promisesOfThePage() {
        promise(21, "cell", "int cell(int row, int column)");
        doc.tells("---- the page");
        doc.says("- `row`: 0 to 7").punched(0, 27, 27, 27, 27, 27, 27, 27, 1).calls("cell(0, 0) = 65; cell(7, 1) = 66;"
            + "cell(8, 0) = NO_SUCH_INDEX; cell(-1, 0) = NO_SUCH_INDEX");
        doc.says("- `column`: 0 to width - 1").punched(0, 1, 2, 3, 4, 5).calls("setWidth(6) = 20; cell(0, 0) = 65; cell(0, 5) = 70;"
            + "cell(0, 6) = NO_SUCH_INDEX; cell(0, -1) = NO_SUCH_INDEX; setWidth(7) = 6; cell(0, 6) = 0");
        doc.says("Returns the character code in the cell, 0 if it is empty; NO_SUCH_INDEX.").punched(29, 25, 26).calls("cell(0, 0) = 36;"
            + "cell(0, 1) = 32; cell(0, 2) = 0; cell(1, 0) = 0; cell(" + MOST + ", 0) = NO_SUCH_INDEX; cell(0, " + MOST
            + ") = NO_SUCH_INDEX; cell(" + LEAST + ", " + LEAST + ") = NO_SUCH_INDEX");
        promise(22, "overstrikes", "int overstrikes()");
        doc.says("Returns the number of overstrikes while the printed text is printed.").calls("overstrikes() = 0; setWidth(5) = 20;"
            + "punch(0) * 96 = 96; overstrikes() = 91; setWidth(40) = 5; overstrikes() = 56; remove(95) = 0; overstrikes() = 55");
    }

    private static void promisesOfLoss() {
        promise(23, "damageIfLost", "int damageIfLost(int i)");
        doc.tells("---- lost and corrupted codes");
        doc.tells("- `i`: index on the tape");
        doc.says("Returns the damage of losing the code at index i; NO_SUCH_INDEX.").punched(29, 1, 2).calls("damageIfLost(0) = 2;"
            + "damageIfLost(2) = 0; damageIfLost(3) = NO_SUCH_INDEX; damageIfLost(-1) = NO_SUCH_INDEX; damageIfLost(" + MOST
            + ") = NO_SUCH_INDEX; damageIfLost(" + LEAST + ") = NO_SUCH_INDEX").tape(29, 1, 2);
        promise(24, "damageIfFlipped", "int damageIfFlipped(int i, int b)");
        doc.tells("- `i`: index on the tape");
        doc.says("- `b`: bit, 0 to 4").punched(13, 0).calls("damageIfFlipped(0, 0) = 1; damageIfFlipped(0, 3) = 1;"
            + "damageIfFlipped(0, 4) = 2");
        doc.says("Returns the damage of flipping bit b of the code at index i; NO_SUCH_INDEX;").punched(29, 1, 2).calls(
            "damageIfFlipped(0, 0) = 3; damageIfFlipped(2, 0) = 1; damageIfFlipped(3, 0) = NO_SUCH_INDEX;"
            + "damageIfFlipped(-1, 5) = NO_SUCH_INDEX; damageIfFlipped(" + MOST + ", 0) = NO_SUCH_INDEX;"
            + "damageIfFlipped(" + LEAST + ", 0) = NO_SUCH_INDEX").tape(29, 1, 2);
        doc.says("BAD_VALUE if b is out of range.").punched(29).calls("damageIfFlipped(0, 5) = BAD_VALUE;"
            + "damageIfFlipped(0, -1) = BAD_VALUE; damageIfFlipped(0, " + MOST + ") = BAD_VALUE;"
            + "damageIfFlipped(0, " + LEAST + ") = BAD_VALUE");
        promiseOfConfidence(25, "confidenceNumerator", "Returns the numerator, in lowest terms, of the confidence at index i"
            + " (0 for probability 0);", new int[] {1, 9, 4, 7, 3, 1, 2, 3, 1, 1, 0});
        promiseOfConfidence(26, "confidenceDenominator", "Returns the denominator, in lowest terms, of the confidence at index i"
            + " (1 for probability 0);", new int[] {1, 10, 5, 10, 5, 2, 5, 10, 5, 10, 1});
    }

    private static void promiseOfConfidence(int number, String name, String returns, int[] behindOneShift) {
        promise(number, name, "int " + name + "(int i, int x)");
        doc.says("- `i`: index on the tape").punched(0).calls(name + "(0, 3) = 1");
        Run tenths = doc.says("- `x`: tenths, 0 to 10").punched(29, 0);
        for (int x = 0; x <= 10; x++) {
            tenths.calls(name + "(1, " + x + ") = " + behindOneShift[x]);
        }
        Run lowest = doc.says(returns).punched(29, 29, 0);
        // one of the two is lost, or both: 1 - (x / 10)^2
        lowest.calls(name + "(2, 0) = 1; " + name + "(2, 5) = " + (number == 25 ? 3 : 4) + "; " + name + "(2, 4) = "
            + (number == 25 ? 21 : 25) + "; " + name + "(2, 3) = " + (number == 25 ? 91 : 100) + "; " + name + "(2, 10) = "
            + (number == 25 ? 0 : 1));
        doc.says("NO_SUCH_INDEX;").punched(0).calls(name + "(1, 0) = NO_SUCH_INDEX; " + name + "(-1, 0) = NO_SUCH_INDEX; "
            + name + "(" + MOST + ", 11) = NO_SUCH_INDEX; " + name + "(" + LEAST + ", 0) = NO_SUCH_INDEX");
        doc.says("BAD_VALUE if x is out of range;").punched(0).calls(name + "(0, 11) = BAD_VALUE; " + name + "(0, -1) = BAD_VALUE; "
            + name + "(0, " + MOST + ") = BAD_VALUE; " + name + "(0, " + LEAST + ") = BAD_VALUE");
        Run shifts = doc.says("NOT_POSSIBLE if there are more than 9 shift codes below index i.").calls("punch(30) * 10; punch(0) = 11;"
            + name + "(9, 5) = 1; " + name + "(10, 11) = BAD_VALUE");
        for (int x = 0; x <= 10; x++) {
            shifts.calls(name + "(10, " + x + ") = NOT_POSSIBLE");
        }
        doc.again().calls("setUnshiftOnSpace(1) = 0; punch(29) * 10; punch(26); punch(0) = 12; " + name + "(11, 5) = NOT_POSSIBLE;"
            + "remove(0) = 29; " + name + "(10, 5) = 1");
        doc.again().calls("punch(31) * 20; punch(29) * 9; punch(0) = 30; " + name + "(29, 1) = "
            + (number == 25 ? 999999999 : 1000000000));
    }

    private static void promisesOfScriptsAndObservations() {
        promise(27, "runScript", "int runScript(int n, long script)");
        doc.tells("---- scripts, observations, noise");
        doc.says("Runs a script on a copy of the state.").punched(0).calls("runScript(2, 101502) = NONE; runScript(2, 101502) = NONE")
            .tape(0);
        doc.says("- `n`: number of commands, 1 to 4").calls("runScript(1, 100) = NONE; runScript(2, 100100) = NONE;"
            + "runScript(3, 100100100) = NONE; runScript(4, 100100100100) = NONE");
        doc.says("- `script`: the commands, a number of at most 3 * n digits (0 or more)").calls("runScript(1, 0) = 0;"
            + "runScript(2, 100) = 0; runScript(3, 100100) = 0; runScript(1, 999) = 0; runScript(4, 999999999999) = 0");
        doc.says("Returns the result of the script;").calls("runScript(2, 131501) = 1; runScript(2, 131500) = NONE");
        doc.says("BAD_VALUE if n is out of range, or if script is negative or has more than 3 * n digits.").calls(
            "runScript(0, 0) = BAD_VALUE; runScript(5, 0) = BAD_VALUE; runScript(" + MOST + ", 0) = BAD_VALUE;"
            + "runScript(" + LEAST + ", 0) = BAD_VALUE; runScript(1, -1) = BAD_VALUE; runScript(4, " + Long.MIN_VALUE + ") = BAD_VALUE;"
            + "runScript(1, 1000) = BAD_VALUE; runScript(2, 1000000) = BAD_VALUE; runScript(3, 1000000000) = BAD_VALUE;"
            + "runScript(4, 1000000000000) = BAD_VALUE; runScript(4, " + Long.MAX_VALUE + ") = BAD_VALUE");
        promise(28, "observe", "int observe(int i, int c)");
        doc.says("Stores an observation.").punched(1).calls("possibleSettings() = 15; observe(0, 49); possibleSettings() = 10");
        doc.says("- `i`: index in the printed text, 0 to 95").calls("observe(95, 10) = 1; observe(0, 10) = 2; punch(27) * 96 = 96;"
            + "possibleSettings() = 15; remove(0) = 27; possibleSettings() = 0");
        doc.says("- `c`: character code, 0 to 255").calls("observe(0, 0) = 1; observe(0, 255) = 2");
        doc.says("Returns how many observations are stored now, 1 to 6;").calls("observe(0, 0) = 1; observe(0, 0) = 2; observe(0, 0) = 3;"
            + "observe(0, 0) = 4; observe(0, 0) = 5; observe(0, 0) = 6; observe(0, 0) = 6; observe(0, 0) = 6");
        doc.says("BAD_VALUE if i or c is out of range.").calls("observe(-1, 0) = BAD_VALUE; observe(96, 0) = BAD_VALUE;"
            + "observe(0, -1) = BAD_VALUE; observe(0, 256) = BAD_VALUE; observe(" + MOST + ", 0) = BAD_VALUE;"
            + "observe(" + LEAST + ", 0) = BAD_VALUE; observe(0, " + MOST + ") = BAD_VALUE; observe(0, " + LEAST + ") = BAD_VALUE;"
            + "possibleSettings() = 15; observe(0, 0) = 1");
        promise(29, "possibleSettings", "int possibleSettings()");
        doc.tells("Returns the possible combinations as a bit set: bit (start case + 2 * option) is set if the combination is possible,"
            + " where the option counts as 1 if it is on.");
        int[] printed = {66, 49};
        for (int option = 0; option <= 1; option++) {
            for (int startCase = 0; startCase <= 1; startCase++) {
                doc.again().punched(1, 29, 26, 1).calls("observe(0, " + printed[startCase] + ") = 1;"
                    + "observe(2, " + printed[1 - option] + ") = 2; possibleSettings() = " + (1 << startCase + 2 * option));
            }
        }
    }

    private static void promiseOfNoise() {
        promise(30, "noise", "int noise(long seed, int m)");
        doc.tells("Computes noise.");
        doc.says("This changes nothing in the object.").punched(27, 29).message("A").calls("observe(0, 10) = 1; save(0) = 2; noise(3, 60);"
            + "noise(4, 60)").tape(27, 29).calls("possibleSettings() = 15; editDistance(0) = 0; clearMessage() = 1; undo() = 1;"
            + "observe(0, 10) = 2; restore(0) = 2").tape(27, 29);
        doc.says("- `seed`: any long").punched(27).calls("noise(" + Long.MIN_VALUE + ", 1) = 1; noise(" + Long.MAX_VALUE + ", 1) = 1;"
            + "noise(0, 1) = 1; noise(-1, 1) = 1");
        doc.says("- `m`: number of steps, 1 to 60").punched(27).calls("noise(0, 1) = 1; noise(9, 60) = " + noisyLineFeeds(1, 9, 60));
        doc.says("Returns the result of the noise; BAD_VALUE if m is out of range.").punched(27, 27, 27).calls(
            "noise(8, 5) = " + noisyLineFeeds(3, 8, 5) + "; noise(8, 0) = BAD_VALUE; noise(8, 61) = BAD_VALUE; noise(8, -1) = BAD_VALUE;"
            + "noise(8, " + MOST + ") = BAD_VALUE; noise(8, " + LEAST + ") = BAD_VALUE");
        doc.again().calls("noise(8, 0) = BAD_VALUE; noise(8, 61) = BAD_VALUE");
    }

    private static void promisesOfSlots() {
        promise(31, "save", "int save(int slot)");
        doc.tells("---- save slots");
        doc.says("Stores the present state in a slot.").punched(1).calls("setWidth(9) = 20; save(0); punch(2) = 2; save(0); undo() = 2;"
            + "save(1); restore(0) = 2").tape(1, 2).calls("restore(1) = 1; setWidth(9) = 9").tape(1);
        doc.says("- `slot`: 0 or 1").calls("save(0) = 0; save(1) = 0");
        doc.says("Returns the number of codes; NO_SUCH_INDEX.").calls("save(1) = 0; punch(31) * 96 = 96; save(0) = 96;"
            + "save(2) = NO_SUCH_INDEX; save(-1) = NO_SUCH_INDEX; save(" + MOST + ") = NO_SUCH_INDEX; save(" + LEAST + ") = NO_SUCH_INDEX");
        promise(32, "restore", "int restore(int slot)");
        doc.says("Replaces the state by the one that is stored in a slot, and forgets all remembered states.").punched(1, 26, 1).calls(
            "setStartCase(1) = 0; setUnshiftOnSpace(1) = 0; setWidth(9) = 20; save(0); remove(0) = 1; setStartCase(0) = 1;"
            + "setUnshiftOnSpace(0) = 1; setWidth(8) = 9; restore(0); undo() = NOT_POSSIBLE").tape(1, 26, 1).cases("110").calls(
            "cell(0, 8) = 0; cell(0, 9) = NO_SUCH_INDEX");
        doc.says("The slot keeps its state.").punched(1).calls("save(1) = 1; restore(1) = 1; flip(0, 0) = 0; setWidth(9) = 20;"
            + "restore(1) = 1; setWidth(9) = 20").tape(1);
        doc.says("This is not an action.").calls("punch(1) = 1; save(0) = 1; restore(0) = 1; undo() = NOT_POSSIBLE; punch(2) = 2;"
            + "undo() = 0; length() = 1");
        doc.says("- `slot`: 0 or 1").punched(1).calls("save(0) = 1; punch(1) = 2; save(1) = 2; restore(0) = 1; restore(1) = 2");
        doc.says("Returns the number of codes of the restored state; NO_SUCH_INDEX;").calls("punch(31) * 5 = 5; save(0) = 5;"
            + "remove(0) = 31; restore(0) = 5; restore(2) = NO_SUCH_INDEX; restore(-1) = NO_SUCH_INDEX; restore(" + MOST
            + ") = NO_SUCH_INDEX; restore(" + LEAST + ") = NO_SUCH_INDEX");
        doc.says("NOT_POSSIBLE if the slot is empty.").punched(1).calls("restore(0) = NOT_POSSIBLE; save(0) = 1; restore(1) = NOT_POSSIBLE;"
            + "undo() = 0; save(1) = 0; restore(1) = 0; restore(0) = 1");
        promise(33, "editDistance", "int editDistance(int slot)");
        doc.says("Compares the printed text with the printed text of the state in a slot.").punched(31, 1, 26, 1).calls("save(0) = 4;"
            + "compact() = 1; editDistance(0) = 0; setStartCase(1) = 0; editDistance(0) = 2; setUnshiftOnSpace(1) = 0;"
            + "editDistance(0) = 1; setWidth(5) = 20; editDistance(0) = 1").tape(1, 26, 1);
        doc.says("- `slot`: 0 or 1").punched(1).calls("save(0) = 1; punch(1) = 2; save(1) = 2; editDistance(0) = 1; editDistance(1) = 0");
        doc.says("Returns the Levenshtein distance of the two texts: the least number of insertions, deletions and replacements of"
            + " single characters that turn one into the other;").calls("save(0) = 0; editDistance(0) = 0; punch(0) = 1;"
            + "editDistance(0) = 1; save(1) = 1; flip(0, 0) = 1; editDistance(1) = 1; punch(0) = 2; editDistance(1) = 1;"
            + "save(1) = 2; remove(0) = 1; editDistance(1) = 1; punch(1) = 2; editDistance(1) = 2; editDistance(0) = 2");
        doc.again().punched(0, 1, 2).calls("save(0) = 3; remove(2) = 2; editDistance(0) = 1; remove(0) = 0; editDistance(0) = 2;"
            + "undo() = 4; undo() = 3; remove(1) = 1; editDistance(0) = 1; undo() = 3; punch(3) = 4; editDistance(0) = 1;"
            + "punch(3) = 5; editDistance(0) = 2");
        // KITTEN and SITTING
        doc.again().punched(10, 8, 19, 19, 4, 13).calls("save(1) = 6; remove(0) * 6 = 13").punched(18, 8, 19, 19, 8, 13, 6).calls(
            "editDistance(1) = 3");
        doc.again().calls("punch(1) * 96 = 96; save(0) = 96; setStartCase(1) = 0; editDistance(0) = 96");
        doc.says("NO_SUCH_INDEX;").calls("editDistance(2) = NO_SUCH_INDEX; editDistance(-1) = NO_SUCH_INDEX; editDistance(" + MOST
            + ") = NO_SUCH_INDEX; editDistance(" + LEAST + ") = NO_SUCH_INDEX");
        doc.says("NOT_POSSIBLE if the slot is empty.").calls("editDistance(0) = NOT_POSSIBLE; save(0) = 0; editDistance(0) = 0;"
            + "editDistance(1) = NOT_POSSIBLE");
    }

    private static void notPromised() {
        doc.tells("## Not promised");
        doc.tells("How the state is held inside the object is free, as are the speed of each call, the text of toString and the"
            + " behaviour of equals and hashCode.");
        doc.tells("Use of one object from several threads at once is not promised to be safe.");
        doc.tells("Nothing is promised beyond the answers and state changes described above, and nothing about an object after its"
            + " 512th call.");
    }
}
