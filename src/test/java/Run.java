import java.lang.reflect.InvocationTargetException;
import java.lang.reflect.Method;
import java.lang.reflect.Modifier;
import java.util.HashMap;
import java.util.Map;
import java.util.regex.Matcher;
import java.util.regex.Pattern;

/**
 * A run of calls on one new object, written as the document writes its examples: "append(65) = 1; length() = 0".
 * "punch(0) * 96 = 96" makes the call 96 times and looks at the last answer; an answer may be a constant's name, and
 * a call without one is made and not looked at.
 */
final class Run {
    private static final Pattern CALL = Pattern.compile("(\\w+)\\(([^)]*)\\)(?: \\* (\\d+))?(?: = (-?\\w+))?");
    private static final Map<String, Method> METHODS = publicMethods();
    // what an object answers after so many calls is free, so no test may look at it
    private static final int MOST_CALLS = 512;
    private static int checked = 0;
    private static int wrong = 0;

    private final String title;
    private final TeleprinterTape object = new TeleprinterTape();
    private int made = 0;

    private Run(String title) {
        this.title = title;
    }

    static Run of(String title) {
        return new Run(title);
    }

    private static Map<String, Method> publicMethods() {
        Map<String, Method> methods = new HashMap<>();
        for (Method method : TeleprinterTape.class.getDeclaredMethods()) {
            if (Modifier.isPublic(method.getModifiers())) {
                methods.put(method.getName(), method);
            }
        }
        return methods;
    }

    Run calls(String calls) {
        for (String call : calls.isBlank() ? new String[0] : calls.trim().split("\\s*;\\s*")) {
            Matcher parts = parts(call);
            long got = answer(parts);
            if (parts.group(4) != null) {
                due(title, call, got, answerNamed(parts.group(4)));
            }
        }
        return this;
    }

    /** Makes one call, written as in a run, and gives its answer. */
    int answer(String call) {
        return answer(parts(call));
    }

    private Matcher parts(String call) {
        Matcher parts = CALL.matcher(call.replaceAll("\\s+", " "));
        if (!parts.matches()) {
            throw new IllegalArgumentException(title + ": cannot be read: " + call);
        }
        return parts;
    }

    private int answer(Matcher parts) {
        int times = parts.group(3) == null ? 1 : Integer.parseInt(parts.group(3));
        long[] arguments = numbers(parts.group(2));
        int got = 0;
        for (int i = 0; i < times; i++) {
            got = ask(parts.group(1), arguments);
        }
        return got;
    }

    private static long[] numbers(String arguments) {
        String[] words = arguments.trim().isEmpty() ? new String[0] : arguments.trim().split("\\s*,\\s*");
        long[] numbers = new long[words.length];
        for (int i = 0; i < words.length; i++) {
            numbers[i] = Long.parseLong(words[i]);
        }
        return numbers;
    }

    /** Appends every character of the message, which must be empty before. */
    Run message(String message) {
        for (int i = 0; i < message.length(); i++) {
            due(title, "append", ask("append", message.charAt(i)), i + 1);
        }
        return this;
    }

    Run punched(int... codes) {
        for (int code : codes) {
            int before = ask("length");
            due(title, "punch(" + code + ")", ask("punch", code), before + 1);
        }
        return this;
    }

    /** Looks at the whole tape. */
    Run tape(int... codes) {
        due(title, "length()", ask("length"), codes.length);
        for (int i = 0; i < codes.length; i++) {
            due(title, "codeAt(" + i + ")", ask("codeAt", i), codes[i]);
        }
        due(title, "codeAt behind the last", ask("codeAt", codes.length), TeleprinterTape.NO_SUCH_INDEX);
        return this;
    }

    /** Looks at the whole printed text. */
    Run prints(String text) {
        due(title, "printedLength()", ask("printedLength"), text.length());
        for (int i = 0; i < text.length(); i++) {
            due(title, "printedAt(" + i + ")", ask("printedAt", i), text.charAt(i));
        }
        due(title, "printedAt behind the last", ask("printedAt", text.length()), TeleprinterTape.NO_SUCH_INDEX);
        return this;
    }

    /** Looks at the case of every code: a digit for each of them. */
    Run cases(String cases) {
        due(title, "length()", ask("length"), cases.length());
        for (int i = 0; i < cases.length(); i++) {
            due(title, "caseAt(" + i + ")", ask("caseAt", i), cases.charAt(i) - '0');
        }
        return this;
    }

    /** Looks at a row of the page, up to the width; '_' stands for an empty cell. */
    Run row(int row, String cells) {
        for (int i = 0; i < cells.length(); i++) {
            int want = cells.charAt(i) == '_' ? 0 : cells.charAt(i);
            due(title, "cell(" + row + ", " + i + ")", ask("cell", row, i), want);
        }
        due(title, "cell behind the row", ask("cell", row, cells.length()), TeleprinterTape.NO_SUCH_INDEX);
        return this;
    }

    /** Makes one call, by its name. */
    int ask(String name, long... arguments) {
        made++;
        if (made > MOST_CALLS) {
            throw new IllegalStateException(title + ": more than " + MOST_CALLS + " calls");
        }
        Method method = METHODS.get(name);
        if (method == null || method.getParameterCount() != arguments.length) {
            throw new IllegalArgumentException("no method " + name + " with " + arguments.length + " arguments");
        }
        try {
            return (Integer) method.invoke(object, values(method.getParameterTypes(), arguments));
        } catch (IllegalAccessException | InvocationTargetException e) {
            throw new IllegalStateException(title + ": " + name, e);
        }
    }

    private static Object[] values(Class<?>[] types, long[] numbers) {
        Object[] values = new Object[numbers.length];
        for (int i = 0; i < numbers.length; i++) {
            if (types[i] == long.class) {
                values[i] = numbers[i];
            } else {
                values[i] = Math.toIntExact(numbers[i]);
            }
        }
        return values;
    }

    static void due(String title, String call, long got, long want) {
        checked++;
        if (got != want) {
            wrong++;
            System.out.println(title + ": " + call + " answered " + got + ", due is " + want);
        }
    }

    /** Ends the test, with exit code 1 if an answer was wrong or nothing was looked at. */
    static void finish() {
        System.out.println(checked + " answers looked at, " + wrong + " of them wrong");
        if (wrong != 0 || checked == 0) {
            System.exit(1);
        }
    }

    static long answerNamed(String word) {
        switch (word) {
            case "NO_SUCH_INDEX": return -1;
            case "BAD_VALUE": return -2;
            case "NOT_POSSIBLE": return -3;
            case "FULL": return -4;
            case "NONE": return -9;
            default: return Long.parseLong(word);
        }
    }
}
