import java.io.IOException;
import java.lang.reflect.Constructor;
import java.lang.reflect.Field;
import java.lang.reflect.Method;
import java.lang.reflect.Modifier;
import java.nio.file.Files;
import java.nio.file.Path;
import java.util.Set;
import java.util.TreeSet;
import java.util.regex.Matcher;
import java.util.regex.Pattern;

/** The public face of the document, and those rules of LANGUAGE.md that a look at the class or its source can tell. */
public final class FaceTest {
    private static final Path SOURCE = Path.of("src/main/java/TeleprinterTape.java");
    private static final Set<String> METHODS = Set.of(
        "append(int)", "clearMessage()", "errorPosition()", "length()", "codeAt(int)", "caseAt(int)", "printedLength()",
        "printedAt(int)", "punch(int)", "encodeMessage()", "encodeWrapped()", "remove(int)", "flip(int,int)", "compact()",
        "repair()", "setStartCase(int)", "setUnshiftOnSpace(int)", "setWidth(int)", "undo()", "cell(int,int)",
        "overstrikes()", "damageIfLost(int)", "damageIfFlipped(int,int)", "confidenceNumerator(int,int)",
        "confidenceDenominator(int,int)", "runScript(int,long)", "observe(int,int)", "possibleSettings()",
        "noise(long,int)", "save(int)", "restore(int)", "editDistance(int)");
    private static final Set<String> CONSTANTS = Set.of("NO_SUCH_INDEX", "BAD_VALUE", "NOT_POSSIBLE", "FULL", "NONE");
    private static final Pattern RULED_OUT = Pattern.compile(
        "\\b(throw|throws|try|catch|synchronized|assert|package|native|volatile|goto|var|Exception|Error|Object)\\b"
        + "|->|::|Exact\\(");

    private FaceTest() {
    }

    public static void main(String[] args) throws IOException {
        constants();
        publicFace();
        nothingElseIsVisible();
        classesInside();
        sourceKeepsToTheLanguage();
        Run.finish();
    }

    private static void constants() {
        Run.due("face", "NO_SUCH_INDEX", TeleprinterTape.NO_SUCH_INDEX, -1);
        Run.due("face", "BAD_VALUE", TeleprinterTape.BAD_VALUE, -2);
        Run.due("face", "NOT_POSSIBLE", TeleprinterTape.NOT_POSSIBLE, -3);
        Run.due("face", "FULL", TeleprinterTape.FULL, -4);
        Run.due("face", "NONE", TeleprinterTape.NONE, -9);
    }

    private static void publicFace() {
        Class<?> face = TeleprinterTape.class;
        holds("public final", Modifier.isPublic(face.getModifiers()) && Modifier.isFinal(face.getModifiers()));
        Set<String> methods = new TreeSet<>();
        for (Method method : face.getDeclaredMethods()) {
            if (Modifier.isPublic(method.getModifiers())) {
                String signature = method.toString().replaceAll(".*TeleprinterTape\\.(\\w+\\(.*\\))$", "$1");
                methods.add(signature);
                holds(signature + " answers an int", method.getReturnType() == int.class);
                holds(signature + " is no static one", !Modifier.isStatic(method.getModifiers()));
            }
        }
        holds("the methods of the document and no other: " + methods, methods.equals(METHODS));
        Constructor<?>[] constructors = face.getDeclaredConstructors();
        holds("one public constructor", constructors.length == 1 && Modifier.isPublic(constructors[0].getModifiers())
            && constructors[0].getParameterCount() == 0);
    }

    private static void nothingElseIsVisible() {
        Class<?> face = TeleprinterTape.class;
        for (Field field : face.getDeclaredFields()) {
            boolean constant = CONSTANTS.contains(field.getName());
            holds(field + " is private or a constant", constant || Modifier.isPrivate(field.getModifiers()));
            holds(field + " is final", Modifier.isFinal(field.getModifiers()));
        }
        for (Method method : face.getDeclaredMethods()) {
            holds(method + " is public or private", (method.getModifiers() & (Modifier.PUBLIC | Modifier.PRIVATE)) != 0);
        }
    }

    private static void classesInside() {
        Class<?>[] inside = TeleprinterTape.class.getDeclaredClasses();
        holds("at most twelve classes", inside.length < 12);
        for (Class<?> one : inside) {
            int modifiers = one.getModifiers();
            holds(one + " is static", Modifier.isStatic(modifiers));
            holds(one + " is not public", !Modifier.isPublic(modifiers) && !Modifier.isProtected(modifiers));
            for (Field field : one.getDeclaredFields()) {
                holds(field + " is no static state", !Modifier.isStatic(field.getModifiers())
                    || Modifier.isFinal(field.getModifiers()));
            }
            for (Method method : one.getDeclaredMethods()) {
                holds(method + " has a name of its own",
                    METHODS.stream().noneMatch(face -> face.startsWith(method.getName() + "(")));
            }
        }
    }

    private static void sourceKeepsToTheLanguage() throws IOException {
        String source = Files.readString(SOURCE);
        holds("only signs from 1 to 127", source.chars().allMatch(c -> c > 0 && c < 128));
        String code = source.replaceAll("(?s)/\\*.*?\\*/", "").replaceAll("//[^\n]*", "").replaceAll("\"[^\"\n]*\"", "\"\"");
        Matcher found = RULED_OUT.matcher(code);
        holds("none of what is ruled out" + (found.find() ? ": " + found.group() : ""), !found.reset().find());
        Matcher imports = Pattern.compile("import ([^;]*);").matcher(code);
        while (imports.find()) {
            holds("import " + imports.group(1), Set.of("java.util.Arrays", "java.util.ArrayList", "java.util.List")
                .contains(imports.group(1)));
        }
    }

    private static void holds(String what, boolean fact) {
        Run.due("face", what, fact ? 1 : 0, 1);
    }
}
