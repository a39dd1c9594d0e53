import java.io.IOException;
import java.lang.reflect.Method;
import java.lang.reflect.Modifier;
import java.net.URI;
import java.nio.file.Files;
import java.nio.file.Path;
import java.util.ArrayList;
import java.util.List;
import java.util.Set;
import java.util.TreeSet;
import java.util.regex.Matcher;
import java.util.regex.Pattern;
import java.util.stream.Stream;
import javax.tools.JavaCompiler;
import javax.tools.JavaFileObject;
import javax.tools.SimpleJavaFileObject;
import javax.tools.ToolProvider;

/** What README.md shows is what the class answers, and the tests that it names are those that there are. */
public final class ReadmeTest {
    private static final Path README = Path.of("README.md");
    private static final String NEW_OBJECT = "TeleprinterTape tape = new TeleprinterTape();";
    private static final Pattern BLOCK = Pattern.compile("```(\\w*)\n(.*?)```", Pattern.DOTALL);
    private static final Pattern SHOWN = Pattern.compile("tape\\.(\\w+)\\(([^)]*)\\); +// (-?\\d+|[A-Z_]+)(?:, (-\\d+))?(?:[:,] .*)?");

    private ReadmeTest() {
    }

    public static void main(String[] args) throws IOException {
        String page = Files.readString(README);
        List<String> blocks = blocks(page, "java");
        holds("shows calls", !blocks.isEmpty());
        Set<String> shown = new TreeSet<>();
        for (String block : blocks) {
            answersAreThoseShown(block, shown);
        }
        holds("shows every call: " + shown, shown.equals(publicMethods()));
        whatIsShownCompiles(blocks);
        constantsAreThoseOfTheClass(page);
        testsAreThoseThereAre(page);
        filesInCommandsAreThere(blocks(page, "sh"));
        Run.finish();
    }

    private static List<String> blocks(String page, String kind) {
        List<String> blocks = new ArrayList<>();
        Matcher found = BLOCK.matcher(page);
        while (found.find()) {
            if (found.group(1).equals(kind)) {
                blocks.add(found.group(2));
            }
        }
        return blocks;
    }

    /** Every line of a block but the first is a call with its answer. */
    private static void answersAreThoseShown(String block, Set<String> shown) {
        String[] lines = block.split("\n");
        holds("begins with a new object: " + lines[0], lines[0].equals(NEW_OBJECT));
        Run run = Run.of("README.md");
        for (int i = 1; i < lines.length; i++) {
            Matcher call = SHOWN.matcher(lines[i]);
            if (!call.matches()) {
                holds("a call with its answer: " + lines[i], false);
                continue;
            }
            shown.add(call.group(1));
            long answer = Run.answerNamed(call.group(3));
            Run.due("README.md", lines[i], run.answer(call.group(1) + "(" + numbers(call.group(2)) + ")"), answer);
            if (call.group(4) != null) {
                Run.due("README.md", lines[i], Long.parseLong(call.group(4)), answer);
            }
        }
    }

    /** The arguments with numbers in place of characters. */
    private static String numbers(String arguments) {
        return Pattern.compile("'(.)'").matcher(arguments).replaceAll(sign -> String.valueOf((int) sign.group(1).charAt(0)));
    }

    private static Set<String> publicMethods() {
        Set<String> names = new TreeSet<>();
        for (Method method : TeleprinterTape.class.getDeclaredMethods()) {
            if (Modifier.isPublic(method.getModifiers())) {
                names.add(method.getName());
            }
        }
        return names;
    }

    private static void whatIsShownCompiles(List<String> blocks) throws IOException {
        StringBuilder methods = new StringBuilder();
        for (int i = 0; i < blocks.size(); i++) {
            methods.append("static void block").append(i).append("() {\n").append(blocks.get(i)).append("}\n");
        }
        String source = "class Shown {\n" + methods + "}\n";
        JavaCompiler compiler = ToolProvider.getSystemJavaCompiler();
        Path folder = Files.createTempDirectory("shown");
        List<String> options = List.of("--release", "17", "-d", folder.toString(), "-cp", System.getProperty("java.class.path"));
        JavaFileObject file = new SimpleJavaFileObject(URI.create("string:///Shown.java"), JavaFileObject.Kind.SOURCE) {
            @Override
            public CharSequence getCharContent(boolean ignoreEncodingErrors) {
                return source;
            }
        };
        holds("compiles", compiler.getTask(null, null, null, options, null, List.of(file)).call());
        Files.deleteIfExists(folder.resolve("Shown.class"));
        Files.delete(folder);
    }

    private static void constantsAreThoseOfTheClass(String page) {
        for (String name : new String[] {"NO_SUCH_INDEX", "BAD_VALUE", "NOT_POSSIBLE", "FULL", "NONE"}) {
            holds("tells the number of " + name, page.matches("(?s).*" + name + "`?, " + Run.answerNamed(name) + "[:,].*"));
        }
    }

    private static void testsAreThoseThereAre(String page) throws IOException {
        Set<String> named = new TreeSet<>();
        Matcher found = Pattern.compile("(?m)^- `(\\w+Test)`: ").matcher(page);
        while (found.find()) {
            named.add(found.group(1));
        }
        Set<String> there = new TreeSet<>();
        try (Stream<Path> files = Files.list(Path.of("src/test/java"))) {
            files.map(file -> file.getFileName().toString().replace(".java", "")).filter(name -> name.endsWith("Test"))
                .forEach(there::add);
        }
        holds("names the tests that there are: " + there, named.equals(there));
    }

    private static void filesInCommandsAreThere(List<String> blocks) {
        holds("shows how to run the tests", blocks.contains(".ci/run\n"));
        holds("the tests can be run", Files.isExecutable(Path.of(".ci/run")));
        for (String block : blocks) {
            Matcher found = Pattern.compile("src/[\\w/]+(\\.java)?").matcher(block);
            while (found.find()) {
                holds(found.group(), Files.exists(Path.of(found.group())));
            }
        }
    }

    private static void holds(String what, boolean fact) {
        Run.due("README.md", what, fact ? 1 : 0, 1);
    }
}
