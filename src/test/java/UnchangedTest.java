import java.util.ArrayList;
import java.util.EnumSet;
import java.util.HashMap;
import java.util.List;
import java.util.Map;
import java.util.Set;
import java.util.function.Supplier;

/**
 * What each call leaves as it was: the state, the remembered states, the message, the observations, the slots. A refused
 * call leaves all of them. To see it, two objects are made alike but for the call, and everything that their later
 * answers can tell of a part is compared.
 */
public final class UnchangedTest {
    /** What an object holds. Each part is looked at on new objects, as a look uses up the calls of an object. */
    private enum Part { STATE, REMEMBERED, MESSAGE, OBSERVATIONS, SLOTS }

    private static final Set<Part> ALL = EnumSet.allOf(Part.class);
    private static final Set<Part> BESIDE_STATE = EnumSet.of(Part.MESSAGE, Part.OBSERVATIONS, Part.SLOTS);

    // ---- the situations

    private record Situation(String name, String calls) {
        Situation then(String more) {
            return new Situation(name + ", " + more, calls + ";" + more);
        }

        Run made() {
            return Run.of(name).calls(calls);
        }
    }

    private static final Situation NEW = new Situation("a new object", "length() = 0");
    private static final Situation BUSY = new Situation("every part holds something, and none is full",
        "append(65); append(49); append(32); append(66); punch(29); punch(1); save(1); setWidth(7); setStartCase(1); punch(26);"
        + "punch(2); setUnshiftOnSpace(1); punch(30); punch(31); punch(27); save(0); punch(3) = 8; observe(5, 66);"
        + "observe(1, 66); observe(3, 66) = 3");
    private static final Situation FULL = new Situation("every part is full",
        "append(65) * 58; append(32); append(90) = 60; punch(4) * 40; save(0); punch(28) * 45; setStartCase(1); save(1);"
        + "setWidth(40); punch(29); setUnshiftOnSpace(1); punch(26); flip(3, 1); punch(30); remove(0); setWidth(5);"
        + "setStartCase(0); punch(7) * 9 = 96; setUnshiftOnSpace(0); observe(9, 0); observe(5, 66); observe(1, 66);"
        + "observe(3, 66); observe(0, 10); observe(2, 32) = 6");
    private static final Situation NOT_ENCODABLE =
        BUSY.then("append(97) = 5; append(65) = 6; setWidth(9) = 7; errorPosition() = 4");
    private static final Situation ONE_LEFT = new Situation("a shift and a character are one code too many",
        "append(49); punch(6) * 90; save(1); punch(31) * 4; setWidth(8); flip(93, 0); punch(2) = 95");
    private static final Situation FULL_TO_REPAIR = new Situation("a full tape that lacks one shift for the message",
        "append(49); append(66); punch(31) * 90; save(0); setWidth(11); punch(29); punch(31) * 2; punch(1); punch(31);"
        + "punch(1) = 96");
    private static final Situation MANY_SHIFTS = new Situation("ten shifts",
        "append(65); punch(29) * 5; punch(30) * 5; setStartCase(1); punch(1) = 11; save(0)");
    private static final Situation[] SITUATIONS = {NEW, BUSY, FULL, NOT_ENCODABLE, ONE_LEFT, FULL_TO_REPAIR, MANY_SHIFTS};

    private static final Map<String, List<Integer>> SEEN = new HashMap<>();

    private UnchangedTest() {
    }

    public static void main(String[] args) {
        lookIsSharp();
        refusedMessageCalls();
        refusedReading();
        refusedActions();
        refusedForWantOfSpace();
        refusedUndo();
        refusedQuestions();
        refusedSlots();
        quietCalls();
        actionsLeaveTheRest();
        actionsAreTakenBack();
        otherChanges();
        Run.finish();
    }

    // ---- the tools

    private static List<Integer> seen(Part part, Supplier<Run> makes) {
        List<Integer> answers = new ArrayList<>();
        switch (part) {
            case STATE -> lookAtState(makes.get(), answers);
            case REMEMBERED -> lookAtRemembered(makes, answers);
            case MESSAGE -> lookAtMessage(makes.get(), answers);
            case OBSERVATIONS -> lookAtObservations(makes.get(), answers);
            case SLOTS -> lookAtSlots(makes, answers);
        }
        return answers;
    }

    private static void lookAtState(Run run, List<Integer> answers) {
        int length = run.ask("length");
        answers.add(length);
        for (int i = 0; i < length; i++) {
            answers.add(run.ask("codeAt", i));
        }
        answers.add(run.ask("setStartCase", 0));
        answers.add(run.ask("setUnshiftOnSpace", 0));
        answers.add(run.ask("setWidth", 20));
    }

    private static void lookAtRemembered(Supplier<Run> makes, List<Integer> answers) {
        for (int depth = 1; depth <= 15; depth++) {
            Run run = makes.get();
            for (int i = 0; i < depth; i++) {
                answers.add(run.ask("undo"));
            }
            lookAtState(run, answers);
        }
    }

    private static void emptyTheTape(Run run) {
        for (int left = run.ask("length"); left > 0; left--) {
            run.ask("remove", 0);
        }
        run.calls("setStartCase(0); setUnshiftOnSpace(0); setWidth(20)");
    }

    private static void lookAtMessage(Run run, List<Integer> answers) {
        emptyTheTape(run);
        answers.add(run.ask("errorPosition"));
        answers.add(run.ask("encodeMessage"));
        lookAtState(run, answers);
        answers.add(run.ask("append", 65));
        answers.add(run.ask("clearMessage"));
    }

    /** On a tape whose text tells the settings apart, the observations are pushed out one by one. */
    private static void lookAtObservations(Run run, List<Integer> answers) {
        emptyTheTape(run);
        run.calls("punch(27); punch(1); punch(26); punch(1); punch(29); punch(26); punch(1)");
        for (int i = 0; i < 12; i++) {
            answers.add(run.ask("possibleSettings"));
            answers.add(run.ask("observe", 0, 10));
        }
        answers.add(run.ask("possibleSettings"));
    }

    private static void lookAtSlots(Supplier<Run> makes, List<Integer> answers) {
        for (int slot = 0; slot < 2; slot++) {
            Run run = makes.get();
            int restored = run.ask("restore", slot);
            answers.add(restored);
            if (restored >= 0) {
                lookAtState(run, answers);
            }
        }
    }

    private static List<Integer> seenIn(Situation situation, Part part) {
        return SEEN.computeIfAbsent(part + situation.calls, key -> seen(part, situation::made));
    }

    /** The calls, which may give the answers that are due, leave the parts as they are in the situation. */
    private static void leaves(Situation situation, String calls, Set<Part> parts) {
        for (Part part : parts) {
            List<Integer> now = seen(part, () -> situation.made().calls(calls));
            Run.due(situation.name, calls + " leaves " + part, now.equals(seenIn(situation, part)) ? 1 : 0, 1);
        }
    }

    private static void refused(String error, Situation situation, String... calls) {
        for (String call : calls) {
            leaves(situation, call + " = " + error, ALL);
        }
    }

    /** The looks tell a change of each part: otherwise this test would prove nothing. */
    private static void lookIsSharp() {
        changes(BUSY, "punch(1)", Part.STATE, Part.REMEMBERED);
        changes(BUSY, "setStartCase(0)", Part.STATE, Part.REMEMBERED);
        changes(BUSY, "setUnshiftOnSpace(0)", Part.STATE, Part.REMEMBERED);
        changes(BUSY, "setWidth(8)", Part.STATE, Part.REMEMBERED);
        changes(BUSY, "compact(); undo(); undo()", Part.STATE, Part.REMEMBERED);
        changes(FULL, "setWidth(5)", Part.REMEMBERED);
        changes(BUSY, "append(65)", Part.MESSAGE);
        changes(NOT_ENCODABLE, "append(65)", Part.MESSAGE);
        changes(FULL, "clearMessage()", Part.MESSAGE);
        changes(BUSY, "observe(0, 10)", Part.OBSERVATIONS);
        changes(FULL, "observe(0, 10)", Part.OBSERVATIONS);
        changes(BUSY, "save(0)", Part.SLOTS);
        changes(FULL, "save(1)", Part.SLOTS);
        changes(NEW, "save(1)", Part.SLOTS);
    }

    private static void changes(Situation situation, String call, Part... parts) {
        for (Part part : parts) {
            List<Integer> now = seen(part, () -> situation.made().calls(call));
            Run.due(situation.name, call + " changes " + part, now.equals(seenIn(situation, part)) ? 0 : 1, 1);
        }
    }

    // ---- "A call that returns an error changes nothing and is not an action."

    private static void refusedMessageCalls() {
        for (Situation situation : SITUATIONS) {
            refused("BAD_VALUE", situation, "append(-1)", "append(256)", "append(321)", "append(-191)");
        }
        refused("FULL", FULL, "append(0)", "append(65)", "append(255)", "append(97)");
    }

    private static void refusedReading() {
        for (String name : new String[] {"codeAt", "caseAt", "printedAt"}) {
            refused("NO_SUCH_INDEX", NEW, name + "(0)", name + "(-1)");
            refused("NO_SUCH_INDEX", BUSY, name + "(8)", name + "(-1)");
            refused("NO_SUCH_INDEX", FULL, name + "(96)", name + "(-1)");
        }
    }

    private static void refusedActions() {
        for (Situation situation : SITUATIONS) {
            refused("BAD_VALUE", situation, "punch(-1)", "punch(32)", "setStartCase(-1)", "setStartCase(2)",
                "setUnshiftOnSpace(-1)", "setUnshiftOnSpace(2)", "setWidth(4)", "setWidth(41)");
            refused("NO_SUCH_INDEX", situation, "remove(-1)", "remove(96)", "flip(-1, 0)", "flip(96, 0)", "flip(96, 5)");
        }
        refused("NO_SUCH_INDEX", NEW, "remove(0)", "flip(0, 0)", "flip(0, 5)");
        refused("NO_SUCH_INDEX", BUSY, "remove(8)", "flip(8, 0)");
        refused("BAD_VALUE", BUSY, "flip(0, -1)", "flip(7, 5)", "flip(0, 32)", "flip(7, -28)");
        refused("BAD_VALUE", FULL, "flip(95, -1)", "flip(0, 5)");
        refused("NOT_POSSIBLE", NOT_ENCODABLE, "encodeMessage()", "encodeWrapped()", "repair()");
        refused("NOT_POSSIBLE", NEW.then("append(0)"), "encodeMessage()", "encodeWrapped()", "repair()");
        refused("NOT_POSSIBLE", BUSY, "repair()");
        refused("NOT_POSSIBLE", FULL, "repair()");
        refused("NOT_POSSIBLE", NEW.then("append(65)"), "repair()");
        refused("NOT_POSSIBLE", NEW.then("punch(1); punch(26)"), "repair()");
    }

    private static void refusedForWantOfSpace() {
        refused("FULL", FULL, "punch(0)", "punch(31)", "encodeMessage()", "encodeWrapped()");
        refused("FULL", ONE_LEFT, "encodeMessage()", "encodeWrapped()");
        refused("FULL", FULL_TO_REPAIR, "repair()", "encodeMessage()", "encodeWrapped()", "punch(3)");
        // the last line's begin is what does not fit
        Situation lastLine = NEW.then("setWidth(5); append(65) * 5; append(32); append(65); punch(0) * 88");
        refused("FULL", lastLine, "encodeWrapped()");
    }

    private static void refusedUndo() {
        refused("NOT_POSSIBLE", NEW, "undo()");
        refused("NOT_POSSIBLE", BUSY.then("undo() * 11 = 0"), "undo()");
        refused("NOT_POSSIBLE", FULL.then("undo() * 14 = 0"), "undo()");
        refused("NOT_POSSIBLE", FULL.then("restore(0)"), "undo()");
    }

    private static void refusedQuestions() {
        for (Situation situation : SITUATIONS) {
            refused("NO_SUCH_INDEX", situation, "cell(-1, 0)", "cell(8, 0)", "cell(0, -1)", "cell(7, 40)", "damageIfLost(96)",
                "damageIfLost(-1)", "damageIfFlipped(96, 0)", "damageIfFlipped(-1, 5)", "confidenceNumerator(96, 1)",
                "confidenceNumerator(-1, 11)", "confidenceDenominator(96, 1)", "confidenceDenominator(-1, 11)");
            refused("BAD_VALUE", situation, "runScript(0, 101)", "runScript(5, 101)", "runScript(1, 1101)",
                "runScript(2, -101)", "runScript(4, 1101101101101)", "observe(-1, 65)", "observe(96, 65)", "observe(0, -1)",
                "observe(0, 256)", "noise(7, 0)", "noise(7, 61)");
        }
        refused("BAD_VALUE", BUSY, "damageIfFlipped(0, -1)", "damageIfFlipped(7, 5)", "confidenceNumerator(0, 11)",
            "confidenceNumerator(7, -1)", "confidenceDenominator(0, 11)", "confidenceDenominator(7, -1)");
        refused("NOT_POSSIBLE", MANY_SHIFTS, "confidenceNumerator(10, 5)", "confidenceDenominator(10, 5)");
    }

    private static void refusedSlots() {
        for (Situation situation : SITUATIONS) {
            refused("NO_SUCH_INDEX", situation, "save(-1)", "save(2)", "restore(-1)", "restore(2)", "editDistance(-1)",
                "editDistance(2)");
        }
        refused("NOT_POSSIBLE", NEW, "restore(0)", "restore(1)", "editDistance(0)", "editDistance(1)");
        refused("NOT_POSSIBLE", ONE_LEFT, "restore(0)", "editDistance(0)");
        refused("NOT_POSSIBLE", MANY_SHIFTS, "restore(1)", "editDistance(1)");
    }

    // ---- "All other methods do not change the state."

    private static void quietCalls() {
        for (Situation situation : SITUATIONS) {
            for (String call : new String[] {"errorPosition()", "length()", "codeAt(0)", "caseAt(0)", "printedLength()",
                "printedAt(0)", "cell(0, 0)", "cell(7, 4)", "overstrikes()", "damageIfLost(0)", "damageIfFlipped(0, 0)",
                "damageIfFlipped(0, 4)", "confidenceNumerator(0, 10)", "confidenceDenominator(0, 0)", "confidenceNumerator(5, 3)",
                "confidenceDenominator(5, 3)", "possibleSettings()", "noise(1, 1)", "noise(-1, 60)", "editDistance(0)",
                "editDistance(1)"}) {
                leaves(situation, call, ALL);
            }
            // a script that goes through, one that fails at its end, and one that fails at once
            for (String call : new String[] {"runScript(1, 200)", "runScript(4, 301401200300)", "runScript(4, 131300401999)",
                "runScript(4, 401301131999)", "runScript(2, 200999)", "runScript(4, 0)"}) {
                leaves(situation, call, ALL);
            }
        }
    }

    // ---- "The message buffer, the observations and the save slots are not part of the state."

    private static final String[] ACTIONS = {"punch(5)", "encodeMessage()", "encodeWrapped()", "remove(0)", "flip(0, 3)",
        "compact()", "repair()", "setStartCase(0)", "setStartCase(1)", "setUnshiftOnSpace(0)", "setUnshiftOnSpace(1)",
        "setWidth(5)", "setWidth(20)", "setWidth(40)"};

    private static void actionsLeaveTheRest() {
        for (Situation situation : SITUATIONS) {
            for (String action : ACTIONS) {
                leaves(situation, action, BESIDE_STATE);
            }
        }
    }

    // ---- "Each successful call of one of them is an action, even if the state stays equal."

    private static void actionsAreTakenBack() {
        int tried = 0;
        for (Situation situation : SITUATIONS) {
            for (String action : ACTIONS) {
                if (situation.made().answer(action) >= 0) {
                    takenBack(situation, action);
                    tried++;
                }
            }
        }
        Run.due("actions", "most of the calls succeed", tried > 60 ? 1 : 0, 1);
    }

    /** As many states are remembered before the action as undo takes back. */
    private static void takenBack(Situation situation, String action) {
        Run counting = situation.made();
        int before = 0;
        while (before < 15 && counting.ask("undo") >= 0) {
            before++;
        }
        int after = Math.min(before, 13);
        leaves(situation, action + "; undo() = " + after, EnumSet.of(Part.STATE));
        leaves(situation, action + "; undo() = " + after, BESIDE_STATE);
        if (before < 14) {
            leaves(situation, action + "; undo() = " + after, EnumSet.of(Part.REMEMBERED));
        }
    }

    // ---- the calls that change one part, or the state without an action

    private static void otherChanges() {
        for (Situation situation : SITUATIONS) {
            leaves(situation, "append(65)", EnumSet.complementOf(EnumSet.of(Part.MESSAGE)));
            leaves(situation, "clearMessage()", EnumSet.complementOf(EnumSet.of(Part.MESSAGE)));
            leaves(situation, "observe(2, 49)", EnumSet.complementOf(EnumSet.of(Part.OBSERVATIONS)));
            leaves(situation, "save(0)", EnumSet.complementOf(EnumSet.of(Part.SLOTS)));
            leaves(situation, "save(1)", EnumSet.complementOf(EnumSet.of(Part.SLOTS)));
            leaves(situation, "undo()", BESIDE_STATE);
            leaves(situation, "undo() * 3", BESIDE_STATE);
            leaves(situation, "restore(0)", BESIDE_STATE);
            leaves(situation, "restore(1)", BESIDE_STATE);
        }
    }
}
