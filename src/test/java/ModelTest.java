import java.lang.reflect.Method;
import java.util.ArrayList;
import java.util.Arrays;
import java.util.List;
import java.util.Random;

/** Long runs of calls, made up from fixed seeds, on the class and on the model: every answer must be the same. */
public final class ModelTest {
    private static final int RUNS = 800;
    // a message of up to 60 characters may follow, and the 512th call is the last that is promised
    private static final int CALLS = 440;
    private static final int[] ODD_INTS = {Integer.MIN_VALUE, -100, -2, -1, 96, 97, 256, 1000, Integer.MAX_VALUE};
    private static final String[] NAMES = {
        "append", "clearMessage", "errorPosition", "length", "codeAt", "caseAt", "printedLength", "printedAt", "punch",
        "encodeMessage", "encodeWrapped", "remove", "flip", "compact", "repair", "setStartCase", "setUnshiftOnSpace",
        "setWidth", "undo", "cell", "overstrikes", "damageIfLost", "damageIfFlipped", "confidenceNumerator",
        "confidenceDenominator", "runScript", "observe", "possibleSettings", "noise", "save", "restore", "editDistance"};

    private final Random random;
    private final TeleprinterTape object = new TeleprinterTape();
    private final Model model = new Model();
    private final List<String> made = new ArrayList<>();
    private final int[] favourites;

    private ModelTest(long seed) {
        random = new Random(seed);
        favourites = new int[] {random.nextInt(26), random.nextInt(26), 26, 29, 30};
    }

    public static void main(String[] args) throws ReflectiveOperationException {
        for (long seed = 0; seed < RUNS; seed++) {
            new ModelTest(seed).run(seed);
        }
        Run.finish();
    }

    private void run(long seed) throws ReflectiveOperationException {
        int preludeCodes = random.nextInt(4) == 0 ? random.nextInt(97) : 0;
        for (int i = 0; i < preludeCodes; i++) {
            if (!same(seed, "punch", code())) {
                return;
            }
        }
        while (made.size() < CALLS) {
            if (random.nextInt(12) == 0 ? !writeMessage(seed) : !someCall(seed)) {
                return;
            }
        }
    }

    private boolean someCall(long seed) throws ReflectiveOperationException {
        String name = random.nextInt(4) == 0 ? "punch" : NAMES[random.nextInt(NAMES.length)];
        if ((name.equals("restore") || name.equals("undo")) && random.nextInt(3) > 0) {
            return true;
        }
        return same(seed, name, arguments(name));
    }

    /** A new message: the printed text with some characters in the other case, or a text of any kind. */
    private boolean writeMessage(long seed) throws ReflectiveOperationException {
        String message = random.nextBoolean() ? otherReading() : anyText();
        if (!same(seed, "clearMessage")) {
            return false;
        }
        for (char c : message.toCharArray()) {
            if (!same(seed, "append", (int) c)) {
                return false;
            }
        }
        return random.nextInt(3) > 0 || same(seed, "repair") && same(seed, "compact");
    }

    private String otherReading() {
        StringBuilder reading = new StringBuilder();
        int decoderCase = 0;
        for (int code : model.codes()) {
            if (random.nextInt(3) == 0) {
                decoderCase = 1 - decoderCase;
            }
            if (code < 29) {
                String letters = "ABCDEFGHIJKLMNOPQRSTUVWXYZ \n\r";
                String figures = "0123456789-?:().,/='+!&%;$ \n\r";
                reading.append((decoderCase == 0 ? letters : figures).charAt(code));
            }
        }
        return reading.toString();
    }

    private String anyText() {
        StringBuilder any = new StringBuilder();
        int length = random.nextInt(random.nextBoolean() ? 12 : 60);
        String signs = random.nextBoolean() ? "ABC 12 X" : "ABCDEFGHIJKLMNOP 0123456789 \n \r $?";
        for (int i = 0; i < length; i++) {
            any.append(random.nextInt(400) == 0 ? (char) random.nextInt(256) : signs.charAt(random.nextInt(signs.length())));
        }
        return any.toString();
    }

    private Object[] arguments(String name) {
        switch (name) {
            case "append": return new Object[] {odd(random.nextInt(8) == 0 ? random.nextInt(256) : character())};
            case "codeAt": case "caseAt": case "remove": case "damageIfLost": return new Object[] {odd(index())};
            case "printedAt": return new Object[] {odd(random.nextInt(model.text().length() + 2))};
            case "punch": return new Object[] {odd(code())};
            case "flip": case "damageIfFlipped": return new Object[] {odd(index()), odd(random.nextInt(5))};
            case "setStartCase": case "setUnshiftOnSpace": return new Object[] {odd(random.nextInt(2))};
            case "setWidth": return new Object[] {odd(random.nextInt(3) == 0 ? 5 : 4 + random.nextInt(38))};
            case "cell": return new Object[] {odd(random.nextInt(9)), odd(random.nextInt(random.nextBoolean() ? 8 : 42))};
            case "confidenceNumerator": case "confidenceDenominator":
                return new Object[] {odd(index()), odd(random.nextInt(11))};
            case "runScript": return scriptArguments();
            case "observe": return observeArguments();
            case "noise":
                return new Object[] {random.nextLong(), odd(random.nextBoolean() ? 1 + random.nextInt(3) : 1 + random.nextInt(61))};
            case "save": case "restore": case "editDistance": return new Object[] {odd(random.nextInt(2))};
            default: return new Object[0];
        }
    }

    private Object[] scriptArguments() {
        int n = 1 + random.nextInt(4);
        long script = 0;
        for (int k = 0; k < n; k++) {
            script = script * 1000 + group();
        }
        if (random.nextInt(20) == 0) {
            script = random.nextLong() >> random.nextInt(60);
        }
        return new Object[] {odd(random.nextInt(20) == 0 ? random.nextInt(6) : n), script};
    }

    private int group() {
        String text = model.text();
        switch (random.nextInt(9)) {
            case 1: return 100 + code();
            case 2: return 200 + Math.min(99, index());
            case 3: return 300 + random.nextInt(3);
            case 4: return 400 + random.nextInt(3);
            case 5: return 500 + Math.max(0, Math.min(99, text.length() + random.nextInt(5) - 2));
            case 6: return 600 + Math.min(99, index());
            case 7: return 700 + (text.isEmpty() ? 32 : text.charAt(text.length() - 1));
            default: return random.nextInt(1000);
        }
    }

    private Object[] observeArguments() {
        String text = model.text();
        if (text.isEmpty() || random.nextInt(10) == 0) {
            return new Object[] {odd(random.nextInt(97)), odd(character())};
        }
        int i = random.nextInt(text.length());
        return new Object[] {i, (int) text.charAt(i)};
    }

    private int odd(int usual) {
        return random.nextInt(40) == 0 ? ODD_INTS[random.nextInt(ODD_INTS.length)] : usual;
    }

    private int index() {
        return random.nextInt(model.codes().size() + (random.nextInt(8) == 0 ? 2 : 1));
    }

    private int code() {
        return random.nextBoolean() ? favourites[random.nextInt(favourites.length)] : random.nextInt(32);
    }

    private int character() {
        return "ABCXYZ 0123456789-$\n\r a#".charAt(random.nextInt(24));
    }

    private boolean same(long seed, String name, Object... arguments) throws ReflectiveOperationException {
        String call = name + Arrays.toString(arguments);
        made.add(call);
        int got = call(object, name, arguments);
        int want = call(model, name, arguments);
        Run.due("seed " + seed + ", call " + made.size(), call, got, want);
        if (got != want) {
            System.out.println("  the run: " + made);
        }
        return got == want;
    }

    private static int call(Object target, String name, Object[] arguments) throws ReflectiveOperationException {
        for (Method method : target.getClass().getDeclaredMethods()) {
            if (method.getName().equals(name) && method.getParameterCount() == arguments.length) {
                method.setAccessible(true);
                return (Integer) method.invoke(target, arguments);
            }
        }
        throw new NoSuchMethodException(name);
    }
}
