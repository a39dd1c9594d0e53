import java.lang.reflect.InvocationTargetException;
import java.lang.reflect.Method;
import java.util.regex.Matcher;
import java.util.regex.Pattern;

/**
 * A run of calls on one new object, written as the document writes its examples: "append(65) = 1; length() = 0".
 * "punch(0) * 96 = 96" makes the call 96 times and looks at the last answer; an answer may be a constant's name.
 */
final class Run {
    private static final Pattern CALL = Pattern.compile("(\\w+)\\(([^)]*)\\)(?: \\* (\\d+))? = (-?\\w+)");
    private static int checked = 0;
    private static int wrong = 0;

    private final String title;
    private final TeleprinterTape object = new TeleprinterTape();

    private Run(String title) {
        this.title = title;
    }

    static Run of(String title) {
        return new Run(title);
    }

    Run calls(String calls) {
        for (String call : calls.trim().split("\\s*;\\s*")) {
            Matcher parts = CALL.matcher(call.replaceAll("\\s+", " "));
            if (!parts.matches()) {
                throw new IllegalArgumentException(title + ": cannot be read: " + call);
            }
            int times = parts.group(3) == null ? 1 : Integer.parseInt(parts.group(3));
            long got = 0;
            for (int i = 0; i < times; i++) {
                got = answer(object, parts.group(1), parts.group(2));
            }
            due(title, call, got, answerNamed(parts.group(4)));
        }
        return this;
    }

    /** Appends every character of the message, which must be empty before. */
    Run message(String message) {
        for (int i = 0; i < message.length(); i++) {
            due(title, "append", object.append(message.charAt(i)), i + 1);
        }
        return this;
    }

    Run punched(int... codes) {
        for (int code : codes) {
            due(title, "punch(" + code + ")", object.punch(code), object.length());
        }
        return this;
    }

    /** Looks at the whole tape. */
    Run tape(int... codes) {
        due(title, "length()", object.length(), codes.length);
        for (int i = 0; i < codes.length; i++) {
            due(title, "codeAt(" + i + ")", object.codeAt(i), codes[i]);
        }
        due(title, "codeAt behind the last", object.codeAt(codes.length), TeleprinterTape.NO_SUCH_INDEX);
        return this;
    }

    /** Looks at the whole printed text. */
    Run prints(String text) {
        due(title, "printedLength()", object.printedLength(), text.length());
        for (int i = 0; i < text.length(); i++) {
            due(title, "printedAt(" + i + ")", object.printedAt(i), text.charAt(i));
        }
        due(title, "printedAt behind the last", object.printedAt(text.length()), TeleprinterTape.NO_SUCH_INDEX);
        return this;
    }

    /** Looks at a row of the page, up to the width; '_' stands for an empty cell. */
    Run row(int row, String cells) {
        for (int i = 0; i < cells.length(); i++) {
            int want = cells.charAt(i) == '_' ? 0 : cells.charAt(i);
            due(title, "cell(" + row + ", " + i + ")", object.cell(row, i), want);
        }
        due(title, "cell behind the row", object.cell(row, cells.length()), TeleprinterTape.NO_SUCH_INDEX);
        return this;
    }

    TeleprinterTape object() {
        return object;
    }

    static void due(String title, String call, long got, long want) {
        checked++;
        if (got != want) {
            wrong++;
            System.out.println(title + ": " + call + " answered " + got + ", due is " + want);
        }
    }

    /** Ends the test, with exit code 1 if an answer was wrong or nothing was looked at. */
    static void finish() {
        System.out.println(checked + " answers looked at, " + wrong + " of them wrong");
        if (wrong != 0 || checked == 0) {
            System.exit(1);
        }
    }

    private static long answerNamed(String word) {
        switch (word) {
            case "NO_SUCH_INDEX": return -1;
            case "BAD_VALUE": return -2;
            case "NOT_POSSIBLE": return -3;
            case "FULL": return -4;
            case "NONE": return -9;
            default: return Long.parseLong(word);
        }
    }

    static long answer(TeleprinterTape object, String name, String arguments) {
        String[] words = arguments.trim().isEmpty() ? new String[0] : arguments.trim().split("\\s*,\\s*");
        for (Method method : TeleprinterTape.class.getDeclaredMethods()) {
            if (method.getName().equals(name) && method.getParameterCount() == words.length) {
                try {
                    return (Integer) method.invoke(object, values(method.getParameterTypes(), words));
                } catch (IllegalAccessException | InvocationTargetException e) {
                    throw new IllegalStateException(name + "(" + arguments + ")", e);
                }
            }
        }
        throw new IllegalArgumentException("no method " + name + " with " + words.length + " arguments");
    }

    private static Object[] values(Class<?>[] types, String[] words) {
        Object[] values = new Object[words.length];
        for (int i = 0; i < words.length; i++) {
            if (types[i] == long.class) {
                values[i] = Long.valueOf(words[i]);
            } else {
                values[i] = Integer.valueOf(words[i]);
            }
        }
        return values;
    }
}
