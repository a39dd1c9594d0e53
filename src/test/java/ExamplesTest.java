/** The five examples of the document, word for word. */
public final class ExamplesTest {
    private ExamplesTest() {
    }

    public static void main(String[] args) {
        Run.of("example 1: a letter and a figure").calls(
            "append(65) = 1; append(49) = 2; encodeMessage() = 3; length() = 3; codeAt(0) = 0;"
            + "codeAt(1) = 29; codeAt(2) = 1; caseAt(2) = 1; damageIfLost(1) = 1");
        Run.of("example 2: a shift that becomes redundant").calls(
            "append(49) = 1; append(32) = 2; append(50) = 3; setUnshiftOnSpace(1) = 0;"
            + "encodeMessage() = 5; setUnshiftOnSpace(0) = 1; compact() = 1; printedAt(2) = 50; length() = 4");
        Run.of("example 3: a repair that is possible, and one that is not").calls(
            "punch(1) = 1; append(49) = 1; repair() = 1; codeAt(0) = 29;"
            + "clearMessage() = 1; append(67) = 1; repair() = -3");
        Run.of("example 4: an overstrike in the last column").calls(
            "setWidth(5) = 20; punch(0) = 1; punch(1) = 2; punch(2) = 3; punch(3) = 4;"
            + "punch(4) = 5; punch(5) = 6; cell(0, 4) = 70; overstrikes() = 1; cell(0, 5) = -1");
        Run.of("example 5: confidence, and scripts").calls(
            "punch(29) = 1; punch(0) = 2; confidenceNumerator(1, 3) = 7; confidenceDenominator(1,"
            + "3) = 10; runScript(2, 130601) = -9; runScript(2, 601130) = -9");
        Run.finish();
    }
}
