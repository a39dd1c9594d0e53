/** For each promise: ordinary inputs, the edges that the document names, and wrong inputs. */
public final class PromisesTest {
    private static final int MOST = Integer.MAX_VALUE;
    private static final int LEAST = Integer.MIN_VALUE;
    private static final String LETTERS = "ABCDEFGHIJKLMNOPQRSTUVWXYZ";
    private static final String FIGURES = "0123456789-?:().,/='+!&%;$";

    private PromisesTest() {
    }

    public static void main(String[] args) {
        newObject();
        messageBuffer();
        errorPosition();
        readingTheTape();
        punch();
        encodeMessage();
        encodeWrapped();
        remove();
        flip();
        compact();
        repair();
        settings();
        undo();
        whatIsAnAction();
        page();
        damageIfLost();
        damageIfFlipped();
        confidence();
        scripts();
        observations();
        noise();
        slots();
        editDistance();
        Run.finish();
    }

    private static void newObject() {
        Run.of("1 new object").tape().prints("").row(0, "____________________").row(7, "____________________").calls(
            "clearMessage() = 0; errorPosition() = NONE; overstrikes() = 0; possibleSettings() = 15;"
            + "undo() = NOT_POSSIBLE; restore(0) = NOT_POSSIBLE; restore(1) = NOT_POSSIBLE;"
            + "setStartCase(0) = 0; setUnshiftOnSpace(0) = 0; setWidth(20) = 20");
        Run used = Run.of("1 two objects share nothing").punched(29, 3).message("AB");
        Run.of("1 another object").tape().calls("clearMessage() = 0");
        used.tape(29, 3).calls("clearMessage() = 2");
    }

    private static void messageBuffer() {
        Run.of("2 append").calls(
            "append(-1) = BAD_VALUE; append(256) = BAD_VALUE; append(0) = 1; append(255) = 2; append(65) * 58 = 60;"
            + "append(65) = FULL; append(0) = FULL; append(256) = BAD_VALUE; append(-1) = BAD_VALUE;"
            + "append(" + MOST + ") = BAD_VALUE; append(" + LEAST + ") = BAD_VALUE;"
            + "clearMessage() = 60; append(66) = 1; encodeMessage() = 1; codeAt(0) = 1");
        Run.of("3 clearMessage").message("AB").calls(
            "clearMessage() = 2; clearMessage() = 0; encodeMessage() = 0; append(67) = 1; clearMessage() = 1");
        Run.of("2, 3 the message is no part of the state").message("AB").calls(
            "save(0) = 0; encodeMessage() = 2; clearMessage() = 2; append(67) = 1; undo() = 0; encodeMessage() = 1;"
            + "restore(0) = 0; encodeMessage() = 1; codeAt(0) = 2; undo() = 0; undo() = NOT_POSSIBLE");
    }

    private static void errorPosition() {
        Run.of("4 all encodable").message(LETTERS + FIGURES + " \n\r").calls("errorPosition() = NONE");
        for (int c = 0; c <= 255; c++) {
            boolean encodable = (LETTERS + FIGURES + " \n\r").indexOf(c) >= 0;
            Run run = Run.of("4 character " + c).calls("append(65) = 1; append(" + c + ") = 2; append(" + c + ") = 3");
            run.calls("errorPosition() = " + (encodable ? "NONE" : "1"));
        }
        Run.of("4 the first one").message("A1 a*").calls("errorPosition() = 3; clearMessage() = 5; errorPosition() = NONE");
    }

    private static void readingTheTape() {
        Run letters = Run.of("5 to 9 letters case");
        Run figures = Run.of("5 to 9 figures case").calls("setStartCase(1) = 0");
        for (int code = 0; code < 26; code++) {
            letters.punched(code);
            figures.punched(code);
        }
        letters.prints(LETTERS);
        figures.prints(FIGURES);
        Run.of("5 to 9 codes without a case").punched(26, 29, 26, 27, 28, 31, 30, 27).prints("  \n\r\n").calls(
            "length() = 8; caseAt(0) = 0; caseAt(1) = 0; caseAt(2) = 1; caseAt(3) = 1; caseAt(4) = 1; caseAt(5) = 1;"
            + "caseAt(6) = 1; caseAt(7) = 0; caseAt(8) = NO_SUCH_INDEX");
        Run.of("5 to 9 wrong indexes").punched(3, 4).calls(
            "codeAt(-1) = NO_SUCH_INDEX; codeAt(2) = NO_SUCH_INDEX; codeAt(" + MOST + ") = NO_SUCH_INDEX;"
            + "codeAt(" + LEAST + ") = NO_SUCH_INDEX; caseAt(-1) = NO_SUCH_INDEX; caseAt(2) = NO_SUCH_INDEX;"
            + "caseAt(" + MOST + ") = NO_SUCH_INDEX; caseAt(" + LEAST + ") = NO_SUCH_INDEX;"
            + "printedAt(-1) = NO_SUCH_INDEX; printedAt(2) = NO_SUCH_INDEX; printedAt(" + MOST + ") = NO_SUCH_INDEX;"
            + "printedAt(" + LEAST + ") = NO_SUCH_INDEX; printedAt(1) = 69; codeAt(1) = 4");
        Run.of("7 unshift on space").punched(29, 1, 26, 1, 29, 27, 28, 1, 31, 1).calls("setUnshiftOnSpace(1) = 0")
            .prints("1 B\n\r11").calls("caseAt(2) = 1; caseAt(3) = 0; caseAt(5) = 1; caseAt(6) = 1; caseAt(9) = 1");
        Run.of("7 unshift from the start case").punched(26, 1).calls("setStartCase(1) = 0").prints(" 1").calls(
            "caseAt(0) = 1; caseAt(1) = 1; setUnshiftOnSpace(1) = 0; caseAt(0) = 1; caseAt(1) = 0").prints(" B");
        Run.of("8 nothing printed").punched(29, 30, 31).prints("").calls("length() = 3");
        Run.of("9 full tape").calls("punch(25) * 96 = 96; printedLength() = 96; printedAt(95) = 90; caseAt(95) = 0;"
            + "codeAt(95) = 25; printedAt(96) = NO_SUCH_INDEX; codeAt(96) = NO_SUCH_INDEX");
    }

    private static void punch() {
        Run.of("10 punch").calls(
            "punch(0) = 1; punch(31) = 2; punch(32) = BAD_VALUE; punch(-1) = BAD_VALUE; punch(" + MOST + ") = BAD_VALUE;"
            + "punch(" + LEAST + ") = BAD_VALUE").tape(0, 31);
        Run.of("10 full").calls(
            "punch(5) * 95 = 95; punch(6) = 96; punch(7) = FULL; punch(32) = BAD_VALUE; punch(-1) = BAD_VALUE;"
            + "length() = 96; codeAt(95) = 6; undo() = 13; length() = 95; punch(8) = 96; codeAt(95) = 8");
    }

    private static void encodeMessage() {
        Run.of("11 shifts as they are needed").message("A1 2B\n3\rC").calls("encodeMessage() = 13")
            .tape(0, 29, 1, 26, 2, 30, 1, 27, 29, 3, 28, 30, 2).prints("A1 2B\n3\rC");
        Run.of("11 figures from the start").message("1A").calls("setStartCase(1) = 0; encodeMessage() = 3").tape(1, 30, 0);
        Run.of("11 unshift on space").message("1 2 A").calls("setUnshiftOnSpace(1) = 0; encodeMessage() = 7")
            .tape(29, 1, 26, 29, 2, 26, 0).prints("1 2 A");
        Run.of("11 behind the codes there are").punched(29, 31).message("7Q").calls("encodeMessage() = 5")
            .tape(29, 31, 7, 30, 16).calls("encodeMessage() = 9").tape(29, 31, 7, 30, 16, 29, 7, 30, 16);
        Run.of("11 every character").message(LETTERS + FIGURES + " \n\r").calls("encodeMessage() = 56")
            .prints(LETTERS + FIGURES + " \n\r");
        Run.of("11 not encodable").message("AB#").calls(
            "encodeMessage() = NOT_POSSIBLE; length() = 0; undo() = NOT_POSSIBLE; punch(1) * 96 = 96;"
            + "encodeMessage() = NOT_POSSIBLE");
        Run.of("11 just full").message("AB1").calls(
            "punch(1) * 92 = 92; encodeMessage() = 96; undo() = 13; punch(2) = 93; encodeMessage() = FULL;"
            + "length() = 93; codeAt(92) = 2; undo() = 13; length() = 92");
        Run.of("11 full by the shift alone").message("1").calls("punch(1) * 95 = 95; encodeMessage() = FULL; length() = 95");
        Run.of("11 a full tape leaves nothing behind").calls("punch(1) * 96 = 96").message("1B").calls(
            "encodeMessage() = FULL; remove(0) * 96 = 1; encodeMessage() = 4").tape(29, 1, 30, 1);
        Run.of("11 empty message").calls("punch(1) * 96 = 96; encodeMessage() = 96; undo() = 13; undo() = 12; length() = 95");
    }

    private static void encodeWrapped() {
        Run.of("12 lines").message("ABC DE FGHIJ K").calls("setWidth(6) = 20; encodeWrapped() = 18")
            .tape(0, 1, 2, 26, 3, 4, 28, 27, 30, 5, 6, 7, 8, 9, 28, 27, 30, 10).calls("undo() = 1");
        Run.of("12 separators").message("\r\n  AB \n C\r").calls("encodeWrapped() = 4").tape(0, 1, 26, 2).prints("AB C");
        Run.of("12 just as wide").message("AB CD").calls("setWidth(5) = 20; encodeWrapped() = 5").tape(0, 1, 26, 2, 3);
        Run.of("12 three words on a line").message("A B C").calls("setWidth(5) = 20; encodeWrapped() = 5").prints("A B C");
        Run.of("12 two words leave no space for a third").message("A BB CC D").calls("setWidth(5) = 20; encodeWrapped() = 11")
            .prints("A BB\r\nCC D");
        Run.of("12 a full tape leaves nothing behind").calls("punch(1) * 96 = 96").message("1B").calls(
            "encodeWrapped() = FULL; remove(0) * 96 = 1; encodeWrapped() = 4").tape(29, 1, 30, 1);
        Run.of("12 too wide by one").message("AB CDE").calls("setWidth(5) = 20; encodeWrapped() = 8")
            .tape(0, 1, 28, 27, 30, 2, 3, 4);
        Run.of("12 a long word is not divided").message("ABCDEFG H IJKLMNO").calls("setWidth(5) = 20; encodeWrapped() = 21")
            .prints("ABCDEFG\r\nH\r\nIJKLMNO");
        Run.of("12 figures on every line").message("12345 678 9").calls("setWidth(5) = 20; encodeWrapped() = 15")
            .tape(29, 1, 2, 3, 4, 5, 28, 27, 30, 29, 6, 7, 8, 26, 9).calls("undo() = 1");
        Run.of("12 unshift on space").message("1 2 A").calls("setUnshiftOnSpace(1) = 0; encodeWrapped() = 7")
            .tape(29, 1, 26, 29, 2, 26, 0);
        Run.of("12 behind the codes there are").punched(29, 1, 26).message("1 A").calls("encodeWrapped() = 7")
            .tape(29, 1, 26, 1, 26, 30, 0);
        Run.of("12 the line begins anew behind the tape").punched(0, 0, 0, 0).message("ABCDE").calls(
            "setWidth(5) = 20; encodeWrapped() = 9").prints("AAAAABCDE");
        Run.of("12 no words").punched(3).message(" \n \r").calls(
            "encodeWrapped() = 1; undo() = 1; clearMessage() = 4; encodeWrapped() = 1").tape(3);
        Run.of("12 not encodable").message("A b").calls("encodeWrapped() = NOT_POSSIBLE; length() = 0;"
            + "undo() = NOT_POSSIBLE; punch(0) * 96 = 96; encodeWrapped() = NOT_POSSIBLE");
        Run.of("12 just full").message("ABCDE F").calls("setWidth(5) = 20; punch(0) * 87 = 87; encodeWrapped() = 96;"
            + "undo() = 13; punch(0) = 88; encodeWrapped() = FULL; length() = 88; undo() = 13; length() = 87");
        Run.of("12 words fill a full tape no more").message(" ").calls("punch(0) * 96 = 96; encodeWrapped() = 96");
    }

    private static void remove() {
        Run.of("13 remove").punched(1, 2, 3, 4).calls("remove(1) = 2").tape(1, 3, 4).calls("remove(2) = 4").tape(1, 3)
            .calls("remove(2) = NO_SUCH_INDEX; remove(-1) = NO_SUCH_INDEX; remove(" + MOST + ") = NO_SUCH_INDEX;"
                + "remove(" + LEAST + ") = NO_SUCH_INDEX; undo() = 5").tape(1, 3, 4)
            .calls("remove(0) = 1; remove(0) = 3; remove(0) = 4; remove(0) = NO_SUCH_INDEX").tape();
        Run.of("13 from a full tape").calls("punch(7) * 95 = 95; punch(8) = 96; remove(95) = 8; remove(0) = 7; length() = 94");
    }

    private static void flip() {
        Run.of("14 flip").punched(0, 31).calls(
            "flip(0, 0) = 1; flip(0, 1) = 3; flip(0, 2) = 7; flip(0, 3) = 15; flip(0, 4) = 31; flip(1, 2) = 27;"
            + "flip(0, 5) = BAD_VALUE; flip(0, -1) = BAD_VALUE; flip(0, 32) = BAD_VALUE; flip(2, 0) = NO_SUCH_INDEX;"
            + "flip(-1, 0) = NO_SUCH_INDEX; flip(2, 5) = NO_SUCH_INDEX; flip(" + MOST + ", 0) = NO_SUCH_INDEX;"
            + "flip(" + LEAST + ", 9) = NO_SUCH_INDEX; flip(0, " + MOST + ") = BAD_VALUE").tape(31, 27)
            .calls("undo() = 7").tape(31, 31);
    }

    private static void compact() {
        Run.of("15 nulls and idle shifts").punched(31, 30, 0, 29, 30, 29, 1, 29, 31, 2, 26, 30, 29, 31).calls(
            "compact() = 9").tape(0, 29, 1, 2, 26).prints("A12 ").calls("compact() = 0; undo() = 13");
        Run.of("15 the first of two shifts goes").punched(29, 29, 1).calls("compact() = 1").tape(29, 1);
        Run.of("15 a shift that a space takes back").punched(29, 26, 1).calls("setUnshiftOnSpace(1) = 0; compact() = 1")
            .tape(26, 1);
        Run.of("15 a shift that only the option makes needed").punched(29, 1, 26, 29, 1).calls(
            "setUnshiftOnSpace(1) = 0; compact() = 0; setUnshiftOnSpace(0) = 1; compact() = 1").tape(29, 1, 26, 1);
        Run.of("15 the start case counts").punched(29, 1).calls("setStartCase(1) = 0; compact() = 1").tape(1)
            .calls("setStartCase(0) = 1; compact() = 0").tape(1);
        Run.of("15 spaces stay").punched(26, 26, 27, 28, 31).calls("compact() = 1").tape(26, 26, 27, 28);
        Run.of("15 a removed shift lets a later one stay").punched(30, 29, 30, 29, 3).calls("compact() = 3").tape(29, 3);
        Run.of("15 a whole tape of nulls").calls("punch(31) * 96 = 96; compact() = 96; length() = 0; undo() = 13; length() = 96");
        Run.of("15 an empty tape").calls("compact() = 0; undo() = 0; undo() = NOT_POSSIBLE");
    }

    private static void repair() {
        Run.of("16 shifts where they are needed").punched(0, 1, 26, 2, 31, 3).message("A1 2D").calls("repair() = 2")
            .tape(0, 29, 1, 26, 2, 31, 30, 3).prints("A1 2D").calls("undo() = 6").tape(0, 1, 26, 2, 31, 3);
        Run.of("16 shifts of the tape stay").punched(30, 1, 30, 2).message("12").calls("repair() = 2")
            .tape(30, 29, 1, 30, 29, 2);
        Run.of("16 nothing to insert").punched(29, 1).message("1").calls("repair() = 0").tape(29, 1)
            .calls("undo() = 2; undo() = 1");
        Run.of("16 unshift on space").punched(29, 1, 26, 2).message("1 2").calls(
            "repair() = 0; setUnshiftOnSpace(1) = 0; repair() = 1").tape(29, 1, 26, 29, 2).prints("1 2");
        Run.of("16 start case").punched(1).message("B").calls("setStartCase(1) = 0; repair() = 1").tape(30, 1);
        Run.of("16 every code in the other case").punched(0, 11, 25).message("0?$").calls("repair() = 1").tape(29, 0, 11, 25);
        Run.of("16 text too short").punched(1).message("BB").calls("repair() = NOT_POSSIBLE").tape(1);
        Run.of("16 text too long").punched(1, 1).message("B").calls("repair() = NOT_POSSIBLE").tape(1, 1);
        Run.of("16 other character").punched(1, 26).message("B\n").calls("repair() = NOT_POSSIBLE").tape(1, 26);
        Run.of("16 other code").punched(1, 2).message("BB").calls("repair() = NOT_POSSIBLE").tape(1, 2);
        Run.of("16 not encodable").punched(1).message("b").calls("repair() = NOT_POSSIBLE; undo() = 0");
        Run.of("16 empty message").punched(31, 29).calls("repair() = 0").tape(31, 29).calls("undo() = 2");
        Run.of("16 empty tape").message("A").calls("repair() = NOT_POSSIBLE; undo() = NOT_POSSIBLE");
        Run.of("16 just full").calls("punch(31) * 93 = 93; punch(1) = 94").message("1").calls("repair() = 1; undo() = 13;"
            + "punch(31) = 95; repair() = 1; length() = 96; codeAt(93) = 29; codeAt(94) = 1; undo() = 13;"
            + "punch(31) = 96; repair() = FULL; length() = 96; codeAt(93) = 1");
        Run.of("16 a full tape leaves nothing behind").calls("punch(31) * 95 = 95; punch(1) = 96").message("1").calls(
            "repair() = FULL; remove(0) * 95 = 31; repair() = 1").tape(29, 1);
        Run.of("16 not possible goes before full").calls("punch(31) * 94 = 94; punch(1) = 95; punch(2) = 96")
            .message("1B").calls("repair() = NOT_POSSIBLE");
        Run.of("16 full without insertions").calls("punch(31) * 95 = 95; punch(1) = 96").message("B").calls("repair() = 0");
    }

    private static void settings() {
        Run.of("17 setStartCase").punched(3).calls(
            "setStartCase(1) = 0; caseAt(0) = 1; setStartCase(1) = 1; setStartCase(2) = BAD_VALUE;"
            + "setStartCase(-1) = BAD_VALUE; caseAt(0) = 1; setStartCase(0) = 1; caseAt(0) = 0; undo() = 3; caseAt(0) = 1;"
            + "undo() = 2; undo() = 1; caseAt(0) = 0");
        Run.of("18 setUnshiftOnSpace").punched(29, 26, 1).calls(
            "caseAt(2) = 1; setUnshiftOnSpace(1) = 0; caseAt(2) = 0; setUnshiftOnSpace(1) = 1;"
            + "setUnshiftOnSpace(2) = BAD_VALUE; setUnshiftOnSpace(-1) = BAD_VALUE; setUnshiftOnSpace(0) = 1;"
            + "caseAt(2) = 1; undo() = 5; caseAt(2) = 0");
        Run.of("19 setWidth").calls(
            "setWidth(5) = 20; setWidth(40) = 5; setWidth(4) = BAD_VALUE; setWidth(41) = BAD_VALUE;"
            + "setWidth(-5) = BAD_VALUE; setWidth(" + MOST + ") = BAD_VALUE; cell(0, 39) = 0; cell(0, 40) = NO_SUCH_INDEX;"
            + "undo() = 1; cell(0, 4) = 0; cell(0, 5) = NO_SUCH_INDEX; setWidth(6) = 5");
    }

    private static void undo() {
        Run.of("20 the last 14 actions").calls("punch(1) * 15 = 15; undo() = 13; length() = 14; undo() * 12 = 1; length() = 2;"
            + "undo() = 0; length() = 1; undo() = NOT_POSSIBLE; length() = 1; punch(2) = 2; undo() = 0").tape(1);
        Run.of("20 exactly 14").calls("punch(1) * 14 = 14; undo() * 14 = 0; undo() = NOT_POSSIBLE").tape();
        Run.of("20 going on after undo").punched(1, 2, 3).calls("undo() = 2; undo() = 1; punch(4) = 2; undo() = 1").tape(1)
            .calls("undo() = 0").tape();
        Run.of("20 round the ring more than once").calls("punch(1) * 40 = 40; undo() * 10 = 4; punch(2) * 3 = 33; undo() = 6;"
            + "codeAt(31) = 2; undo() * 6 = 0; length() = 26; undo() = NOT_POSSIBLE");
    }

    private static void whatIsAnAction() {
        Run.of("each success is an action").punched(1).message("B").calls(
            "encodeMessage() = 2; encodeWrapped() = 3; undo() = 2; undo() = 1; flip(0, 1) = 3; flip(0, 1) = 1; remove(0) = 1;"
            + "undo() = 3; undo() = 2; undo() = 1; repair() = 0; compact() = 0; setStartCase(0) = 0;"
            + "setUnshiftOnSpace(0) = 0; setWidth(20) = 20; undo() = 5; undo() = 4; undo() = 3; undo() = 2; undo() = 1");
        Run.of("no error is an action").calls("append(97) = 1; punch(32) = BAD_VALUE; encodeMessage() = NOT_POSSIBLE;"
            + "encodeWrapped() = NOT_POSSIBLE; remove(0) = NO_SUCH_INDEX; flip(0, 0) = NO_SUCH_INDEX;"
            + "repair() = NOT_POSSIBLE; setStartCase(2) = BAD_VALUE; setUnshiftOnSpace(2) = BAD_VALUE;"
            + "setWidth(4) = BAD_VALUE; undo() = NOT_POSSIBLE");
        Run.of("no other call is an action").calls("append(65) = 1; errorPosition() = NONE; clearMessage() = 1;"
            + "printedLength() = 0; cell(0, 0) = 0; overstrikes() = 0; runScript(1, 101) = NONE; observe(0, 65) = 1;"
            + "possibleSettings() = 0; noise(1, 1) = 0; save(0) = 0; editDistance(0) = 0; undo() = NOT_POSSIBLE");
    }

    private static void page() {
        Run.of("21 rows and columns").punched(0, 1, 27, 2, 28, 3, 27, 4).calls("setWidth(5) = 20").row(0, "AB___")
            .row(1, "D_C__").row(2, "_E___").row(3, "_____").calls("overstrikes() = 0");
        Run.of("21 wrong cells").punched(0).calls(
            "cell(0, 19) = 0; cell(7, 19) = 0; cell(8, 0) = NO_SUCH_INDEX; cell(-1, 0) = NO_SUCH_INDEX;"
            + "cell(0, -1) = NO_SUCH_INDEX; cell(0, 20) = NO_SUCH_INDEX; cell(" + MOST + ", 0) = NO_SUCH_INDEX;"
            + "cell(0, " + MOST + ") = NO_SUCH_INDEX; cell(" + LEAST + ", " + LEAST + ") = NO_SUCH_INDEX; cell(0, 0) = 65");
        Run.of("21 the last column").punched(0, 1, 2, 3, 4, 26, 5).calls("setWidth(5) = 20").row(0, "ABCDF").calls(
            "overstrikes() = 0; undo() = 7; cell(0, 4) = 69; cell(0, 5) = 32; cell(0, 6) = 70");
        Run.of("21 a line feed in the last column").punched(0, 1, 2, 3, 4, 27, 5).calls("setWidth(5) = 20")
            .row(0, "ABCDE").row(1, "____F").calls("overstrikes() = 0");
        Run.of("21 a row moves up").punched(0, 27, 1, 27, 27, 27, 27, 27, 27, 2, 28, 27, 3).calls("setWidth(5) = 20")
            .row(0, "_B___").row(1, "_____").row(5, "_____").row(6, "__C__").row(7, "D____");
        Run.of("21 many rows move up").calls("punch(0) = 1; punch(27) * 40 = 41; punch(1) = 42; cell(0, 0) = 0;"
            + "cell(6, 0) = 0; cell(7, 0) = 0; cell(7, 1) = 66; cell(6, 1) = 0; overstrikes() = 0");
        Run.of("21 a full row is lost whole").calls("setWidth(40) = 20; punch(0) * 40 = 40; punch(27) * 7 = 47;"
            + "cell(0, 39) = 65; punch(27) = 48; cell(0, 39) = 0; cell(0, 0) = 0; cell(7, 39) = 0; punch(1) = 49;"
            + "cell(7, 39) = 66; cell(7, 38) = 0; overstrikes() = 0");
        Run.of("22 overstrikes").punched(0, 26, 1, 28, 2, 3, 26).calls("overstrikes() = 1").row(0, "CD __" + "_".repeat(15))
            .punched(28, 0, 0, 0).calls("overstrikes() = 3");
        Run.of("22 the same character again").punched(0, 28, 0).calls("overstrikes() = 1");
        Run.of("22 a space takes the character away").punched(0, 28, 26, 28, 1).calls("overstrikes() = 0; cell(0, 0) = 66");
        Run.of("22 lost rows count").calls("punch(0) = 1; punch(28) = 2; punch(1) = 3; punch(27) * 20 = 23; overstrikes() = 1;"
            + "punch(28) = 24; punch(2) = 25; punch(28) = 26; punch(3) = 27; overstrikes() = 2");
        Run.of("22 a full tape in one cell").calls("punch(28) = 1; punch(0) * 95 = 96; overstrikes() = 75; setWidth(5) = 20;"
            + "overstrikes() = 90; setWidth(40) = 5; overstrikes() = 55");
    }

    private static void damageIfLost() {
        Run.of("23 a shift").punched(0, 29, 1, 26, 2, 31, 3, 30, 4).calls(
            "damageIfLost(0) = 0; damageIfLost(1) = 3; damageIfLost(2) = 0; damageIfLost(3) = 0; damageIfLost(4) = 0;"
            + "damageIfLost(5) = 0; damageIfLost(6) = 0; damageIfLost(7) = 1; damageIfLost(8) = 0;"
            + "damageIfLost(9) = NO_SUCH_INDEX; damageIfLost(-1) = NO_SUCH_INDEX; damageIfLost(" + MOST + ") = NO_SUCH_INDEX;"
            + "damageIfLost(" + LEAST + ") = NO_SUCH_INDEX; length() = 9");
        Run.of("23 an idle shift").punched(29, 29, 1, 30, 30, 2).calls(
            "damageIfLost(0) = 0; damageIfLost(1) = 0; damageIfLost(3) = 0; damageIfLost(4) = 0");
        Run.of("23 a space that unshifts").punched(29, 26, 1, 2, 26, 3).calls(
            "damageIfLost(1) = 0; setUnshiftOnSpace(1) = 0; damageIfLost(1) = 2; damageIfLost(4) = 0; damageIfLost(0) = 0");
        Run.of("23 a space stops the damage").punched(29, 1, 26, 1).calls(
            "damageIfLost(0) = 2; setUnshiftOnSpace(1) = 0; damageIfLost(0) = 1");
        Run.of("23 from the start case").punched(30, 1, 29, 2).calls(
            "damageIfLost(0) = 0; setStartCase(1) = 0; damageIfLost(0) = 1; damageIfLost(2) = 1");
        Run.of("23 only codes with a case count").punched(29, 26, 27, 28, 31, 25).calls("damageIfLost(0) = 1");
    }

    private static void damageIfFlipped() {
        Run.of("24 the code itself").punched(0, 1, 2).calls(
            "damageIfFlipped(0, 0) = 1; damageIfFlipped(0, 4) = 1; damageIfFlipped(2, 3) = 1");
        Run.of("24 a shift that turns").punched(29, 1, 26, 2, 30, 3).calls(
            "damageIfFlipped(0, 0) = 3; damageIfFlipped(0, 1) = 2; damageIfFlipped(0, 4) = 3;"
            + "damageIfFlipped(4, 0) = 1; damageIfFlipped(4, 1) = 2; damageIfFlipped(4, 2) = 2");
        Run.of("24 nothing into nothing").punched(31, 1).calls(
            "damageIfFlipped(0, 0) = 0; damageIfFlipped(0, 1) = 1; damageIfFlipped(0, 2) = 1");
        Run.of("24 into a space that unshifts").punched(29, 27, 1, 2).calls(
            "damageIfFlipped(1, 0) = 1; setUnshiftOnSpace(1) = 0; damageIfFlipped(1, 0) = 3; damageIfFlipped(1, 2) = 1");
        Run.of("24 wrong inputs").punched(1).calls(
            "damageIfFlipped(1, 0) = NO_SUCH_INDEX; damageIfFlipped(-1, 0) = NO_SUCH_INDEX;"
            + "damageIfFlipped(1, 5) = NO_SUCH_INDEX; damageIfFlipped(0, 5) = BAD_VALUE; damageIfFlipped(0, -1) = BAD_VALUE;"
            + "damageIfFlipped(" + LEAST + ", 0) = NO_SUCH_INDEX; damageIfFlipped(0, " + MOST + ") = BAD_VALUE").tape(1);
    }

    private static void confidence() {
        Run.of("25, 26 one shift").punched(29, 0).calls(
            fraction(0, 3, 1, 1) + fraction(1, 0, 1, 1) + fraction(1, 10, 0, 1) + fraction(1, 3, 7, 10)
            + fraction(1, 5, 1, 2) + fraction(1, 8, 1, 5));
        Run.of("25, 26 there and back").punched(29, 30, 0).calls(fraction(2, 3, 79, 100) + fraction(2, 10, 1, 1)
            + fraction(1, 4, 3, 5));
        Run.of("25, 26 there, back and there").punched(29, 30, 29, 0).calls(fraction(3, 3, 763, 1000));
        Run.of("25, 26 an idle shift guards").punched(29, 29, 29, 0).calls(fraction(3, 3, 973, 1000)
            + fraction(3, 10, 0, 1) + fraction(3, 5, 7, 8));
        Run.of("25, 26 start case figures").punched(29, 1).calls("setStartCase(1) = 0;" + fraction(1, 7, 1, 1));
        Run.of("25, 26 back to letters").punched(30, 1).calls("setStartCase(1) = 0;" + fraction(1, 7, 3, 10));
        Run.of("25, 26 a space makes sure").punched(29, 26, 1, 29, 2).calls(fraction(2, 3, 7, 10) + fraction(4, 3, 91, 100)
            + "setUnshiftOnSpace(1) = 0;" + fraction(2, 3, 1, 1) + fraction(4, 3, 7, 10) + fraction(1, 3, 7, 10));
        Run.of("25, 26 the code itself is not below").punched(29, 29).calls(fraction(0, 10, 1, 1) + fraction(1, 10, 0, 1));
        Run.of("25, 26 nine shifts").calls("punch(29) * 9 = 9; punch(0) = 10;" + fraction(9, 1, 999999999, 1000000000)
            + fraction(9, 9, 612579511, 1000000000) + fraction(9, 5, 511, 512)
            + "remove(9) = 0; punch(29) = 10; punch(0) = 11;" + fraction(9, 1, 999999999, 1000000000)
            + "confidenceNumerator(10, 1) = NOT_POSSIBLE; confidenceDenominator(10, 1) = NOT_POSSIBLE;"
            + "confidenceNumerator(10, 0) = NOT_POSSIBLE; confidenceDenominator(10, 10) = NOT_POSSIBLE;"
            + "confidenceNumerator(10, 11) = BAD_VALUE; confidenceDenominator(10, -1) = BAD_VALUE");
        Run.of("25, 26 nulls are no shifts").calls("punch(31) * 20 = 20; punch(0) = 21;" + fraction(20, 5, 1, 1));
        Run.of("25, 26 wrong inputs").punched(1).calls(
            "confidenceNumerator(1, 0) = NO_SUCH_INDEX; confidenceNumerator(-1, 0) = NO_SUCH_INDEX;"
            + "confidenceNumerator(1, 11) = NO_SUCH_INDEX; confidenceNumerator(0, 11) = BAD_VALUE;"
            + "confidenceNumerator(0, -1) = BAD_VALUE; confidenceDenominator(1, 0) = NO_SUCH_INDEX;"
            + "confidenceDenominator(-1, 0) = NO_SUCH_INDEX; confidenceDenominator(1, 11) = NO_SUCH_INDEX;"
            + "confidenceDenominator(0, 11) = BAD_VALUE; confidenceDenominator(0, -1) = BAD_VALUE;"
            + "confidenceDenominator(" + LEAST + ", " + MOST + ") = NO_SUCH_INDEX");
    }

    private static String fraction(int i, int x, int numerator, int denominator) {
        String question = "(" + i + ", " + x + ") = ";
        return "confidenceNumerator" + question + numerator + ";confidenceDenominator" + question + denominator + ";";
    }

    private static void scripts() {
        Run.of("27 wrong inputs").calls(
            "runScript(0, 0) = BAD_VALUE; runScript(-1, 0) = BAD_VALUE; runScript(5, 0) = BAD_VALUE;"
            + "runScript(1, -1) = BAD_VALUE; runScript(4, " + Long.MIN_VALUE + ") = BAD_VALUE;"
            + "runScript(4, " + Long.MAX_VALUE + ") = BAD_VALUE; runScript(1, 1000) = BAD_VALUE;"
            + "runScript(2, 1000000) = BAD_VALUE; runScript(3, 1000000000) = BAD_VALUE;"
            + "runScript(4, 1000000000000) = BAD_VALUE; runScript(1, 999) = 0; runScript(2, 999999) = 0;"
            + "runScript(4, 999999999999) = 0; runScript(" + MOST + ", 1) = BAD_VALUE");
        Run.of("27 punch").calls("runScript(1, 100) = NONE; runScript(1, 131) = NONE; runScript(1, 132) = 0;"
            + "runScript(2, 131199) = 1; length() = 0; punch(0) * 95 = 95; runScript(2, 100100) = 1;"
            + "runScript(3, 100295100) = NONE; length() = 95");
        Run.of("27 remove").punched(1, 2).calls("runScript(1, 201) = NONE; runScript(1, 202) = 0;"
            + "runScript(3, 200200200) = 2; runScript(2, 200701) = 1; runScript(2, 200767) = NONE; length() = 2");
        Run.of("27 option").punched(29, 26, 1).calls("runScript(1, 602) = NONE; runScript(2, 301602) = 1;"
            + "runScript(3, 301300602) = NONE; runScript(1, 302) = 0; runScript(1, 310) = 0; runScript(1, 311) = 0;"
            + "runScript(1, 309) = 0; caseAt(2) = 1");
        Run.of("27 start case").punched(1).calls("runScript(1, 600) = 0; runScript(2, 401600) = NONE;"
            + "runScript(3, 401400600) = 2; runScript(1, 402) = 0; runScript(1, 410) = 0; runScript(1, 411) = 0;"
            + "runScript(1, 409) = 0; caseAt(0) = 0");
        Run.of("27 number of characters").punched(29, 1, 26, 31).calls("runScript(1, 502) = NONE; runScript(1, 501) = 0;"
            + "runScript(1, 503) = 0; runScript(1, 504) = 0; runScript(2, 101503) = NONE; runScript(2, 201501) = NONE");
        Run.of("27 an empty text").calls("runScript(1, 500) = NONE; runScript(1, 700) = 0; runScript(1, 732) = 0");
        Run.of("27 a full text").calls("punch(0) * 96 = 96; runScript(1, 596) = NONE; runScript(1, 100) = 0; runScript(1, 295) = NONE;"
            + "runScript(1, 296) = 0; runScript(1, 695) = 0; runScript(2, 401695) = NONE; runScript(2, 401696) = 1");
        Run.of("27 decoded in figures case").punched(1, 29, 2, 30, 3).calls("runScript(1, 600) = 0; runScript(1, 601) = 0;"
            + "runScript(1, 602) = NONE; runScript(1, 603) = NONE; runScript(1, 604) = 0; runScript(1, 605) = 0;"
            + "runScript(2, 203603) = NONE");
        Run.of("27 last character").punched(1, 29, 2, 31).calls("runScript(1, 750) = NONE; runScript(1, 766) = 0;"
            + "runScript(2, 201767) = NONE; runScript(2, 126732) = NONE; runScript(2, 127710) = NONE; runScript(2, 128713) = NONE;"
            + "runScript(4, 202202201766) = NONE; runScript(3, 202201700) = 2");
        Run.of("27 other groups").calls("runScript(1, 0) = 0; runScript(1, 7) = 0; runScript(1, 99) = 0; runScript(1, 800) = 0;"
            + "runScript(1, 900) = 0; runScript(2, 101) = 0; runScript(4, 101101101000) = 3; runScript(4, 101101101101) = NONE;"
            + "runScript(2, 101800) = 1; runScript(3, 101101900) = 2; runScript(4, 101) = 0");
        Run.of("27 the state stays").punched(1).calls("runScript(4, 102301401504) = 3; runScript(4, 102301401502) = NONE").tape(1)
            .calls("caseAt(0) = 0; undo() = 0; setUnshiftOnSpace(1) = 0; setStartCase(1) = 0");
    }

    private static void observations() {
        Run.of("28 wrong inputs").calls(
            "observe(-1, 0) = BAD_VALUE; observe(96, 0) = BAD_VALUE; observe(0, -1) = BAD_VALUE; observe(0, 256) = BAD_VALUE;"
            + "observe(" + MOST + ", 0) = BAD_VALUE; observe(0, " + LEAST + ") = BAD_VALUE; possibleSettings() = 15;"
            + "observe(95, 255) = 1; observe(0, 0) = 2; possibleSettings() = 0");
        Run.of("28 the last six").punched(0, 1).calls("observe(1, 90) = 1; possibleSettings() = 0; observe(0, 65) = 2;"
            + "observe(0, 65) = 3; observe(0, 65) = 4; observe(0, 65) = 5; observe(0, 65) = 6; possibleSettings() = 0;"
            + "observe(0, 65) = 6; possibleSettings() = 5; observe(1, 66) * 6 = 6; possibleSettings() = 5;"
            + "observe(1, 90) = 6; observe(1, 66) * 5 = 6; possibleSettings() = 0; observe(1, 66) = 6; possibleSettings() = 5");
        Run.of("29 start case").punched(1).calls("observe(0, 66) = 1; possibleSettings() = 5; setStartCase(1) = 0;"
            + "possibleSettings() = 5; observe(0, 49) = 2; possibleSettings() = 0");
        Run.of("29 figures").punched(1).calls("observe(0, 49) = 1; possibleSettings() = 10");
        Run.of("29 each combination").punched(1, 26, 1).calls("observe(0, 66) = 1; observe(2, 66) = 2; possibleSettings() = 5;"
            + "observe(2, 66) * 6 = 6; possibleSettings() = 13; observe(2, 49) * 6 = 6;"
            + "possibleSettings() = 2; observe(0, 49) * 6 = 6; possibleSettings() = 10; observe(2, 66) = 6; possibleSettings() = 8;"
            + "setUnshiftOnSpace(1) = 0; possibleSettings() = 8");
        Run.of("29 only the option tells").punched(29, 26, 1).calls("observe(1, 49) = 1; possibleSettings() = 3;"
            + "observe(1, 66) * 6 = 6; possibleSettings() = 12");
        Run.of("29 there must be such a character").punched(1).calls("observe(1, 0) = 1; possibleSettings() = 0;"
            + "observe(0, 66) * 6 = 6; possibleSettings() = 5; remove(0) = 1; possibleSettings() = 0; undo() = 1; possibleSettings() = 5");
        Run.of("28 nothing else changes them").punched(1).calls("save(0) = 1; observe(0, 66) = 1; restore(0) = 1; setWidth(9) = 20;"
            + "undo() = 0; clearMessage() = 0; possibleSettings() = 5; observe(0, 66) = 2");
        Run.of("29 the state stays").punched(29, 26, 1).calls("possibleSettings() = 15; caseAt(0) = 0; caseAt(2) = 1; undo() = 2");
    }

    private static void noise() {
        Run.of("30 wrong inputs").calls("noise(1, 0) = BAD_VALUE; noise(1, 61) = BAD_VALUE; noise(1, -1) = BAD_VALUE;"
            + "noise(1, " + MOST + ") = BAD_VALUE; noise(1, " + LEAST + ") = BAD_VALUE; noise(1, 1) = 0; noise(1, 60) = 0");
        // the seed whose next x is 0 gives v = 0, which flips bit 0 of the code at index 0
        long toZero = seedBefore(0L);
        Run.of("30 one step").punched(0, 29, 1).calls("noise(" + toZero + ", 1) = 1").tape(0, 29, 1).calls("undo() = 2");
        Run.of("30 index and bit").punched(31, 29, 1, 2).calls(
            "noise(" + seedBefore(1L << 33) + ", 1) = 3; noise(" + seedBefore(97L << 33) + ", 1) = 2;"
            + "noise(" + seedBefore((96L + 96 * 3) << 33) + ", 1) = 1; noise(" + toZero + ", 1) = 0;"
            + "noise(" + seedBefore(96L << 33) + ", 1) = 0; noise(" + seedBefore((96L * 2) << 33) + ", 1) = 1");
        Run.of("30 two steps may cancel").punched(3).calls(
            "noise(5, 60) = " + noiseOfOneCode(3, 5L, 60) + "; noise(-7, 59) = " + noiseOfOneCode(3, -7L, 59)
            + "; noise(" + Long.MIN_VALUE + ", 2) = " + noiseOfOneCode(3, Long.MIN_VALUE, 2));
        Run.of("30 settings count").punched(1, 1, 1, 1, 1, 1).calls("setStartCase(1) = 0; noise(" + toZero + ", 1) = 1");
    }

    /** The x whose next one is the one given. */
    private static long seedBefore(long next) {
        long inverse = 1;
        for (int i = 0; i < 6; i++) {
            inverse *= 2 - 6364136223846793005L * inverse;
        }
        return (next - 1442695040888963407L) * inverse;
    }

    /** The noise of a tape with one printing code: whether what it becomes prints something else. */
    private static int noiseOfOneCode(int code, long seed, int steps) {
        int noisy = code;
        long x = seed;
        for (int i = 0; i < steps; i++) {
            x = x * 6364136223846793005L + 1442695040888963407L;
            noisy ^= 1 << ((int) (x >>> 33) / 96 % 5);
        }
        return noisy == code ? 0 : 1;
    }

    private static void slots() {
        Run.of("31 wrong slots").calls("save(-1) = NO_SUCH_INDEX; save(2) = NO_SUCH_INDEX; save(" + MOST + ") = NO_SUCH_INDEX;"
            + "restore(-1) = NO_SUCH_INDEX; restore(2) = NO_SUCH_INDEX; restore(" + LEAST + ") = NO_SUCH_INDEX;"
            + "editDistance(-1) = NO_SUCH_INDEX; editDistance(2) = NO_SUCH_INDEX; editDistance(" + MOST + ") = NO_SUCH_INDEX");
        Run.of("31, 32 save and restore").punched(1, 2).calls("setWidth(7) = 20; setStartCase(1) = 0; setUnshiftOnSpace(1) = 0;"
            + "save(1) = 2; restore(0) = NOT_POSSIBLE; setWidth(9) = 7; setStartCase(0) = 1; setUnshiftOnSpace(0) = 1;"
            + "punch(3) = 3; remove(0) = 1; restore(1) = 2; undo() = NOT_POSSIBLE").tape(1, 2).calls(
            "caseAt(0) = 1; cell(0, 6) = 0; cell(0, 7) = NO_SUCH_INDEX; setUnshiftOnSpace(1) = 1; setWidth(7) = 7;"
            + "undo() = 1; restore(0) = NOT_POSSIBLE; undo() = 0");
        Run.of("32 the slot keeps its state").punched(1).calls("save(0) = 1; restore(0) = 1; punch(2) = 2; flip(0, 1) = 3;"
            + "restore(0) = 1").tape(1).calls("punch(5) = 2; undo() = 0; undo() = NOT_POSSIBLE").tape(1);
        Run.of("31 two slots, each with the last state").punched(1).calls("save(0) = 1; punch(2) = 2; save(1) = 2; punch(3) = 3;"
            + "save(0) = 3; restore(1) = 2").tape(1, 2).calls("restore(0) = 3").tape(1, 2, 3);
        Run.of("31 undo leaves the slots").punched(1).calls("save(0) = 1; undo() = 0; save(1) = 0; restore(0) = 1; restore(1) = 0")
            .tape();
        Run.of("31 saving is no action and forgets nothing").punched(1, 2).calls("save(0) = 2; undo() = 1; undo() = 0");
        Run.of("32 a full tape").calls("punch(4) * 96 = 96; save(0) = 96; remove(95) = 4; restore(0) = 96; punch(1) = FULL");
    }

    private static void editDistance() {
        Run.of("33 empty slot").calls("editDistance(0) = NOT_POSSIBLE; save(0) = 0; editDistance(0) = 0;"
            + "editDistance(1) = NOT_POSSIBLE");
        distance("KITTEN", "SITTING", 3);
        distance("", "ABC", 3);
        distance("ABC", "", 3);
        distance("ABC", "ABC", 0);
        distance("ABCDEF", "BCDEFA", 2);
        distance("AB", "BA", 2);
        distance("SUNDAY", "SATURDAY", 3);
        distance("A 1\n", "A\r1", 2);
        distance("ABCABBA", "CBABAC", 4);
        Run.of("33 printed texts, not codes").punched(31, 29, 30, 1).calls("save(0) = 4; compact() = 3; editDistance(0) = 0");
        Run.of("33 the slot has its own settings").punched(1, 26, 1).calls("save(0) = 3; setStartCase(1) = 0;"
            + "editDistance(0) = 2; setUnshiftOnSpace(1) = 0; editDistance(0) = 1; save(1) = 3; editDistance(1) = 0;"
            + "restore(0) = 3; editDistance(1) = 1; editDistance(0) = 0");
        Run.of("33 full tapes").calls("punch(1) * 96 = 96; save(0) = 96; setStartCase(1) = 0; editDistance(0) = 96;"
            + "remove(0) * 96 = 1; editDistance(0) = 96; save(1) = 0; restore(0) = 96; editDistance(1) = 96");
        Run.of("33 nothing changes").punched(1, 2).calls("save(0) = 2; remove(0) = 1; editDistance(0) = 1").tape(2)
            .calls("undo() = 2").tape(1, 2).calls("restore(0) = 2").tape(1, 2);
    }

    private static void distance(String one, String other, int want) {
        Run run = Run.of("33 " + one + " and " + other).message(one);
        run.calls("encodeMessage(); save(1)");
        for (int left = run.ask("length"); left > 0; left--) {
            run.ask("remove", 0);
        }
        run.calls("clearMessage()").message(other).calls("encodeMessage()");
        run.prints(other).calls("editDistance(1) = " + want);
    }
}
