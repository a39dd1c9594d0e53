import java.math.BigInteger;
import java.util.ArrayDeque;
import java.util.ArrayList;
import java.util.Collections;
import java.util.Deque;
import java.util.List;

/** The document once more, as literally as the Java library allows and without a thought of speed. */
final class Model {
    private static final String LETTERS = "ABCDEFGHIJKLMNOPQRSTUVWXYZ";
    private static final String FIGURES = "0123456789-?:().,/='+!&%;$";

    private record State(List<Integer> codes, int startCase, boolean unshift, int width) {
        State with(List<Integer> other) {
            return new State(List.copyOf(other), startCase, unshift, width);
        }
    }

    private record Observation(int index, int character) {
    }

    private State state = new State(List.of(), 0, false, 20);
    private String message = "";
    private final Deque<State> remembered = new ArrayDeque<>();
    private final Deque<Observation> observed = new ArrayDeque<>();
    private final State[] slots = new State[2];

    // ---- decoding

    private static List<Integer> cases(State s) {
        List<Integer> cases = new ArrayList<>(List.of(s.startCase));
        for (int code : s.codes) {
            int before = cases.get(cases.size() - 1);
            boolean toLetters = code == 30 || code == 26 && s.unshift;
            cases.add(code == 29 ? 1 : toLetters ? 0 : before);
        }
        return cases;
    }

    private static String printedBy(int code, int decoderCase) {
        if (code < 26) {
            return (decoderCase == 0 ? LETTERS : FIGURES).substring(code, code + 1);
        }
        return code == 26 ? " " : code == 27 ? "\n" : code == 28 ? "\r" : "";
    }

    private static List<String> printedParts(State s) {
        List<Integer> cases = cases(s);
        List<String> parts = new ArrayList<>();
        for (int i = 0; i < s.codes.size(); i++) {
            parts.add(printedBy(s.codes.get(i), cases.get(i)));
        }
        return parts;
    }

    private static String printed(State s) {
        return String.join("", printedParts(s));
    }

    private static List<Integer> without(List<Integer> codes, int i) {
        List<Integer> shorter = new ArrayList<>(codes);
        shorter.remove(i);
        return shorter;
    }

    private static List<Integer> flipped(List<Integer> codes, int i, int b) {
        List<Integer> other = new ArrayList<>(codes);
        other.set(i, codes.get(i) ^ (1 << b));
        return other;
    }

    private static List<Integer> plus(List<Integer> codes, int... more) {
        List<Integer> longer = new ArrayList<>(codes);
        for (int code : more) {
            longer.add(code);
        }
        return longer;
    }

    private static int differences(State one, State other) {
        List<String> ones = printedParts(one);
        List<String> others = printedParts(other);
        int different = 0;
        for (int j = 0; j < ones.size(); j++) {
            if (!ones.get(j).equals(others.get(j))) {
                different++;
            }
        }
        return different;
    }

    private void act(State next) {
        remembered.addLast(state);
        if (remembered.size() > 14) {
            remembered.removeFirst();
        }
        state = next;
    }

    private boolean exists(int i) {
        return i >= 0 && i < state.codes.size();
    }

    // ---- the calls

    int append(int c) {
        if (c < 0 || c > 255) {
            return -2;
        }
        if (message.length() == 60) {
            return -4;
        }
        message += (char) c;
        return message.length();
    }

    int clearMessage() {
        int before = message.length();
        message = "";
        return before;
    }

    int errorPosition() {
        for (int i = 0; i < message.length(); i++) {
            if ((LETTERS + FIGURES + " \n\r").indexOf(message.charAt(i)) < 0) {
                return i;
            }
        }
        return -9;
    }

    int length() {
        return state.codes.size();
    }

    int codeAt(int i) {
        return exists(i) ? state.codes.get(i) : -1;
    }

    int caseAt(int i) {
        return exists(i) ? cases(state).get(i) : -1;
    }

    int printedLength() {
        return printed(state).length();
    }

    int printedAt(int i) {
        return i >= 0 && i < printedLength() ? printed(state).charAt(i) : -1;
    }

    int punch(int code) {
        if (code < 0 || code > 31) {
            return -2;
        }
        if (length() == 96) {
            return -4;
        }
        act(state.with(plus(state.codes, code)));
        return length();
    }

    private static State encoded(State s, char c) {
        int last = cases(s).get(s.codes.size());
        for (int code = 0; code < 29; code++) {
            String character = String.valueOf(c);
            if (printedBy(code, last).equals(character)) {
                return s.with(plus(s.codes, code));
            }
            if (printedBy(code, 1 - last).equals(character)) {
                return s.with(plus(s.codes, last == 0 ? 29 : 30, code));
            }
        }
        throw new IllegalStateException("not encodable: " + (int) c);
    }

    private int takeLonger(State longer) {
        if (longer.codes.size() > 96) {
            return -4;
        }
        act(longer);
        return length();
    }

    int encodeMessage() {
        if (errorPosition() != -9) {
            return -3;
        }
        State longer = state;
        for (char c : message.toCharArray()) {
            longer = encoded(longer, c);
        }
        return takeLonger(longer);
    }

    private List<String> wrappedLines() {
        List<String> lines = new ArrayList<>(List.of(""));
        for (String word : message.split("[ \n\r]+")) {
            int last = lines.size() - 1;
            String line = lines.get(last);
            if (word.isEmpty()) {
                continue;
            }
            if (line.isEmpty()) {
                lines.set(last, word);
            } else if ((line + " " + word).length() <= state.width) {
                lines.set(last, line + " " + word);
            } else {
                lines.add(word);
            }
        }
        return lines;
    }

    int encodeWrapped() {
        if (errorPosition() != -9) {
            return -3;
        }
        State longer = state;
        boolean first = true;
        for (String line : wrappedLines()) {
            if (!first) {
                longer = longer.with(plus(longer.codes, 28, 27, 30));
            }
            first = false;
            for (char c : line.toCharArray()) {
                longer = encoded(longer, c);
            }
        }
        return takeLonger(longer);
    }

    int remove(int i) {
        if (!exists(i)) {
            return -1;
        }
        int code = codeAt(i);
        act(state.with(without(state.codes, i)));
        return code;
    }

    int flip(int i, int b) {
        if (!exists(i)) {
            return -1;
        }
        if (b < 0 || b > 4) {
            return -2;
        }
        act(state.with(flipped(state.codes, i, b)));
        return codeAt(i);
    }

    int compact() {
        State shorter = state;
        int i = 0;
        while (i < shorter.codes.size()) {
            State next = shorter.with(without(shorter.codes, i));
            if (shorter.codes.get(i) >= 29 && printed(next).equals(printed(shorter))) {
                shorter = next;
            } else {
                i++;
            }
        }
        int removed = length() - shorter.codes.size();
        act(shorter);
        return removed;
    }

    /** Tries, before each code from 0 to 25, no shift and the two shifts, and keeps the shortest tape for each case. */
    int repair() {
        List<State> ways = new ArrayList<>(List.of(state.with(List.of())));
        for (int code : state.codes) {
            List<State> next = new ArrayList<>();
            for (State way : ways) {
                next.add(way.with(plus(way.codes, code)));
                if (code < 26) {
                    next.add(way.with(plus(way.codes, 29, code)));
                    next.add(way.with(plus(way.codes, 30, code)));
                }
            }
            next.removeIf(way -> !message.startsWith(printed(way)));
            ways = shortestOfEachCase(next);
        }
        ways.removeIf(way -> !printed(way).equals(message));
        if (ways.isEmpty()) {
            return -3;
        }
        State best = Collections.min(ways, (a, b) -> a.codes.size() - b.codes.size());
        if (best.codes.size() > 96) {
            return -4;
        }
        int inserted = best.codes.size() - length();
        act(best);
        return inserted;
    }

    private static List<State> shortestOfEachCase(List<State> ways) {
        List<State> kept = new ArrayList<>();
        for (int last = 0; last < 2; last++) {
            State best = null;
            for (State way : ways) {
                if (cases(way).get(way.codes.size()) == last && (best == null || way.codes.size() < best.codes.size())) {
                    best = way;
                }
            }
            if (best != null) {
                kept.add(best);
            }
        }
        return kept;
    }

    int setStartCase(int v) {
        if (v != 0 && v != 1) {
            return -2;
        }
        int before = state.startCase;
        act(new State(state.codes, v, state.unshift, state.width));
        return before;
    }

    int setUnshiftOnSpace(int v) {
        if (v != 0 && v != 1) {
            return -2;
        }
        int before = state.unshift ? 1 : 0;
        act(new State(state.codes, state.startCase, v == 1, state.width));
        return before;
    }

    int setWidth(int w) {
        if (w < 5 || w > 40) {
            return -2;
        }
        int before = state.width;
        act(new State(state.codes, state.startCase, state.unshift, w));
        return before;
    }

    int undo() {
        if (remembered.isEmpty()) {
            return -3;
        }
        state = remembered.removeLast();
        return remembered.size();
    }

    // ---- the page

    private int strikes;

    private List<char[]> page() {
        List<char[]> rows = new ArrayList<>();
        for (int i = 0; i < 8; i++) {
            rows.add(new char[state.width]);
        }
        strikes = 0;
        int row = 0;
        int column = 0;
        for (char c : printed(state).toCharArray()) {
            if (c == '\r') {
                column = 0;
            } else if (c == '\n' && row == 7) {
                rows.remove(0);
                rows.add(new char[state.width]);
            } else if (c == '\n') {
                row++;
            } else {
                char there = rows.get(row)[column];
                strikes += c != ' ' && there != ' ' && there != 0 ? 1 : 0;
                rows.get(row)[column] = c;
                column += column == state.width - 1 ? 0 : 1;
            }
        }
        return rows;
    }

    int cell(int row, int column) {
        boolean there = row >= 0 && row < 8 && column >= 0 && column < state.width;
        return there ? page().get(row)[column] : -1;
    }

    int overstrikes() {
        page();
        return strikes;
    }

    // ---- lost and corrupted codes

    int damageIfLost(int i) {
        if (!exists(i)) {
            return -1;
        }
        List<Integer> with = cases(state);
        List<Integer> lost = cases(state.with(without(state.codes, i)));
        int damage = 0;
        for (int j = i + 1; j < length(); j++) {
            damage += state.codes.get(j) < 26 && !with.get(j).equals(lost.get(j - 1)) ? 1 : 0;
        }
        return damage;
    }

    int damageIfFlipped(int i, int b) {
        if (!exists(i)) {
            return -1;
        }
        return b < 0 || b > 4 ? -2 : differences(state, state.with(flipped(state.codes, i, b)));
    }

    /** Sums over all ways to lose the shift codes; null if there are too many of them. */
    private BigInteger[] confidence(int i, int x) {
        List<Integer> shifts = new ArrayList<>();
        for (int j = 0; j < i; j++) {
            if (state.codes.get(j) == 29 || state.codes.get(j) == 30) {
                shifts.add(j);
            }
        }
        if (shifts.size() > 9) {
            return null;
        }
        BigInteger sum = BigInteger.ZERO;
        for (int lost = 0; lost < 1 << shifts.size(); lost++) {
            List<Integer> codes = new ArrayList<>(state.codes);
            long weight = 1;
            for (int k = 0; k < shifts.size(); k++) {
                boolean isLost = (lost >> k & 1) == 1;
                weight *= isLost ? x : 10 - x;
                if (isLost) {
                    codes.set(shifts.get(k), 31);
                }
            }
            if (cases(state.with(codes)).get(i).equals(cases(state).get(i))) {
                sum = sum.add(BigInteger.valueOf(weight));
            }
        }
        BigInteger whole = BigInteger.TEN.pow(shifts.size());
        BigInteger common = sum.gcd(whole);
        return new BigInteger[] {sum.divide(common), whole.divide(common)};
    }

    private int confidencePart(int i, int x, int part) {
        if (!exists(i)) {
            return -1;
        }
        if (x < 0 || x > 10) {
            return -2;
        }
        BigInteger[] fraction = confidence(i, x);
        return fraction == null ? -3 : fraction[part].intValueExact();
    }

    int confidenceNumerator(int i, int x) {
        return confidencePart(i, x, 0);
    }

    int confidenceDenominator(int i, int x) {
        return confidencePart(i, x, 1);
    }

    // ---- scripts, observations, noise

    int runScript(int n, long script) {
        if (n < 1 || n > 4 || script < 0 || String.valueOf(script).length() > 3 * n) {
            return -2;
        }
        String digits = "000000000000" + script;
        digits = digits.substring(digits.length() - 3 * n);
        State copy = state;
        for (int k = 0; k < n; k++) {
            copy = afterCommand(copy, digits.substring(3 * k, 3 * k + 3));
            if (copy == null) {
                return k;
            }
        }
        return -9;
    }

    /** The state after the command, or null if it fails. */
    private static State afterCommand(State s, String group) {
        int xy = Integer.parseInt(group.substring(1));
        boolean there = xy < s.codes.size();
        String text = printed(s);
        switch (group.charAt(0)) {
            case '1':
                return xy > 31 || s.codes.size() == 96 ? null : s.with(plus(s.codes, xy));
            case '2':
                return there ? s.with(without(s.codes, xy)) : null;
            case '3':
                return xy > 1 ? null : new State(s.codes, s.startCase, xy == 1, s.width);
            case '4':
                return xy > 1 ? null : new State(s.codes, xy, s.unshift, s.width);
            case '5':
                return text.length() == xy ? s : null;
            case '6':
                return there && cases(s).get(xy) == 1 ? s : null;
            case '7':
                return !text.isEmpty() && text.charAt(text.length() - 1) == xy ? s : null;
            default:
                return null;
        }
    }

    int observe(int i, int c) {
        if (i < 0 || i > 95 || c < 0 || c > 255) {
            return -2;
        }
        observed.addLast(new Observation(i, c));
        if (observed.size() > 6) {
            observed.removeFirst();
        }
        return observed.size();
    }

    int possibleSettings() {
        int bits = 0;
        for (int startCase = 0; startCase < 2; startCase++) {
            for (int option = 0; option < 2; option++) {
                String text = printed(new State(state.codes, startCase, option == 1, state.width));
                boolean holds = observed.stream().allMatch(
                    o -> o.index < text.length() && text.charAt(o.index) == o.character);
                bits += holds ? 1 << (startCase + 2 * option) : 0;
            }
        }
        return bits;
    }

    int noise(long seed, int m) {
        if (m < 1 || m > 60) {
            return -2;
        }
        int n = length();
        if (n == 0) {
            return 0;
        }
        State copy = state;
        long x = seed;
        for (int i = 0; i < m; i++) {
            x = x * 6364136223846793005L + 1442695040888963407L;
            int v = (int) (x >>> 33);
            copy = copy.with(flipped(copy.codes, v % n, v / 96 % 5));
        }
        return differences(state, copy);
    }

    // ---- save slots

    int save(int slot) {
        if (slot != 0 && slot != 1) {
            return -1;
        }
        slots[slot] = state;
        return length();
    }

    int restore(int slot) {
        if (slot != 0 && slot != 1) {
            return -1;
        }
        if (slots[slot] == null) {
            return -3;
        }
        state = slots[slot];
        remembered.clear();
        return length();
    }

    int editDistance(int slot) {
        if (slot != 0 && slot != 1) {
            return -1;
        }
        if (slots[slot] == null) {
            return -3;
        }
        String a = printed(state);
        String b = printed(slots[slot]);
        int[][] table = new int[a.length() + 1][b.length() + 1];
        for (int i = 0; i <= a.length(); i++) {
            for (int j = 0; j <= b.length(); j++) {
                if (i == 0 || j == 0) {
                    table[i][j] = i + j;
                } else {
                    int replaced = table[i - 1][j - 1] + (a.charAt(i - 1) == b.charAt(j - 1) ? 0 : 1);
                    table[i][j] = Math.min(replaced, 1 + Math.min(table[i - 1][j], table[i][j - 1]));
                }
            }
        }
        return table[a.length()][b.length()];
    }

    // ---- what a maker of calls may look at

    String text() {
        return printed(state);
    }

    List<Integer> codes() {
        return state.codes;
    }
}
