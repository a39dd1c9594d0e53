import java.util.Arrays;

/**
 * All short tapes in every setting, without a choice by chance: every question, every compaction and every repair has the
 * model's answer.
 */
public final class SmallTapesTest {
    // one code of each kind, and both ends of those that depend on the case
    private static final int[] EACH_KIND = {0, 25, 26, 27, 28, 29, 30, 31};
    // those that matter for the case alone
    private static final int[] FOR_THE_CASE = {0, 26, 29, 30, 31};

    private final int[] codes;
    private final String title;
    private TeleprinterTape object;
    private Model model;

    private SmallTapesTest(int[] codes, int setting) {
        this.codes = codes;
        title = "tape " + Arrays.toString(codes) + ", start case " + (setting & 1) + ", option " + (setting >> 1);
        begin(setting);
        questions();
        begin(setting);
        compact();
        for (int reading = 0; reading < 1 << codes.length; reading++) {
            begin(setting);
            repair(reading);
        }
    }

    public static void main(String[] args) {
        for (int length = 0; length <= 3; length++) {
            all(EACH_KIND, length);
        }
        all(FOR_THE_CASE, 4);
        Run.finish();
    }

    private static void all(int[] kinds, int length) {
        int tapes = (int) Math.pow(kinds.length, length);
        for (int number = 0; number < tapes; number++) {
            int[] codes = new int[length];
            int rest = number;
            for (int i = 0; i < length; i++) {
                codes[i] = kinds[rest % kinds.length];
                rest /= kinds.length;
            }
            for (int setting = 0; setting < 4; setting++) {
                new SmallTapesTest(codes, setting);
            }
        }
    }

    private void begin(int setting) {
        object = new TeleprinterTape();
        model = new Model();
        object.setStartCase(setting & 1);
        model.setStartCase(setting & 1);
        object.setUnshiftOnSpace(setting >> 1);
        model.setUnshiftOnSpace(setting >> 1);
        for (int code : codes) {
            same("punch", object.punch(code), model.punch(code));
        }
    }

    private void questions() {
        sameTape();
        same("overstrikes", object.overstrikes(), model.overstrikes());
        for (int i = 0; i < codes.length; i++) {
            same("damageIfLost " + i, object.damageIfLost(i), model.damageIfLost(i));
            for (int b = 0; b < 5; b++) {
                same("damageIfFlipped " + i + " " + b, object.damageIfFlipped(i, b), model.damageIfFlipped(i, b));
            }
            for (int x = 0; x <= 10; x++) {
                same("numerator " + i + " " + x, object.confidenceNumerator(i, x), model.confidenceNumerator(i, x));
                same("denominator " + i + " " + x, object.confidenceDenominator(i, x), model.confidenceDenominator(i, x));
            }
        }
        for (int i = 0; i < codes.length; i++) {
            for (int c : new int[] {'A', '0', ' '}) {
                // six times, so that no other observation is stored
                for (int k = 0; k < 6; k++) {
                    same("observe", object.observe(i, c), model.observe(i, c));
                }
                same("possibleSettings " + i + " " + c, object.possibleSettings(), model.possibleSettings());
            }
        }
        for (int seed = 0; seed < 8; seed++) {
            same("noise " + seed, object.noise(seed, 2), model.noise(seed, 2));
        }
    }

    private void compact() {
        same("compact", object.compact(), model.compact());
        sameTape();
        same("compact again", object.compact(), model.compact());
        same("undo", object.undo(), model.undo());
        same("undo", object.undo(), model.undo());
        sameTape();
    }

    /** The message is a reading of the tape, in which a bit tells the case of each code. */
    private void repair(int reading) {
        for (int i = 0; i < codes.length; i++) {
            if (codes[i] < 29) {
                String signs = (reading >> i & 1) == 0 ? "ABCDEFGHIJKLMNOPQRSTUVWXYZ \n\r" : "0123456789-?:().,/='+!&%;$ \n\r";
                same("append", object.append(signs.charAt(codes[i])), model.append(signs.charAt(codes[i])));
            }
        }
        same("repair for reading " + reading, object.repair(), model.repair());
        sameTape();
        same("encodeMessage", object.encodeMessage(), model.encodeMessage());
        same("encodeWrapped", object.encodeWrapped(), model.encodeWrapped());
        sameTape();
    }

    private void sameTape() {
        same("length", object.length(), model.length());
        same("printedLength", object.printedLength(), model.printedLength());
        for (int i = 0; i <= model.length(); i++) {
            same("codeAt " + i, object.codeAt(i), model.codeAt(i));
            same("caseAt " + i, object.caseAt(i), model.caseAt(i));
            same("printedAt " + i, object.printedAt(i), model.printedAt(i));
        }
    }

    private void same(String call, int got, int want) {
        Run.due(title, call, got, want);
    }
}
