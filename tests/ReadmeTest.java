import java.io.IOException;
import java.lang.reflect.Method;
import java.lang.reflect.Modifier;
import java.net.URL;
import java.net.URLClassLoader;
import java.nio.charset.StandardCharsets;
import java.nio.file.Files;
import java.nio.file.Path;
import java.util.TreeSet;
import java.util.regex.Matcher;
import java.util.regex.Pattern;
import java.util.stream.Stream;
import javax.tools.ToolProvider;

/** What README.md says of the class and of its tests is so. */
public final class ReadmeTest {
    private static final Pattern EXAMPLE = Pattern.compile("```java\n(.*?)```", Pattern.DOTALL);
    private static final Pattern ANSWER = Pattern.compile("(net\\.[^;]*);\\s*// (-?\\d+)(:.*)?");
    private static final Pattern ROW =
            Pattern.compile("\\| `(\\w+)\\(([^)]*)\\)` \\| [^|]+ \\|([^|]*)\\|");
    private static final Pattern TEST = Pattern.compile("- `tests/(\\w+\\.java)`:");

    private static int wrong = 0;

    public static void main(String[] args) throws Exception {
        String page = Files.readString(Path.of("README.md"), StandardCharsets.UTF_8);
        page = page.replace("\r\n", "\n");
        checkExample(page);
        checkCalls(page);
        checkTests(page);
        System.out.println(wrong == 0 ? "the README says what is so" : wrong + " faults");
        if (wrong != 0) {
            System.exit(1);
        }
    }

    private static void fault(String text) {
        wrong++;
        System.out.println(text);
    }

    private static void same(String what, Object inPage, Object got) {
        if (!inPage.equals(got)) {
            fault("README.md tells of " + what + ": " + inPage + ", but it is " + got);
        }
    }

    /** Called by what the example is made into. */
    public static void answer(String call, long inPage, long got) {
        same(call, inPage, got);
    }

    private static void checkExample(String page) throws Exception {
        Matcher example = EXAMPLE.matcher(page);
        if (!example.find()) {
            fault("README.md has no example");
            return;
        }
        StringBuilder code = new StringBuilder("public final class Example {\n");
        code.append("public static void run() {\n");
        int answers = 0;
        for (String line : example.group(1).split("\n")) {
            Matcher told = ANSWER.matcher(line);
            if (told.matches()) {
                answers++;
                code.append("ReadmeTest.answer(\"").append(told.group(1)).append("\", ")
                        .append(told.group(2)).append(", ").append(told.group(1)).append(");\n");
            } else {
                code.append(line).append('\n');
            }
        }
        code.append("}\n}\n");
        if (answers == 0) {
            fault("the example of README.md tells no answer");
        }
        runExample(code.toString());
    }

    private static void runExample(String code) throws Exception {
        Path folder = Files.createTempDirectory("readme");
        Path file = folder.resolve("Example.java");
        try {
            Files.writeString(file, code);
            int failed = ToolProvider.getSystemJavaCompiler().run(null, null, null, "-cp",
                    System.getProperty("java.class.path"), "-d", folder.toString(), file.toString());
            if (failed != 0) {
                fault("the example of README.md does not compile");
                return;
            }
            try (URLClassLoader loader = new URLClassLoader(new URL[] {folder.toUri().toURL()})) {
                loader.loadClass("Example").getMethod("run").invoke(null);
            }
        } finally {
            Files.deleteIfExists(folder.resolve("Example.class"));
            Files.deleteIfExists(file);
            Files.deleteIfExists(folder);
        }
    }

    private static String row(String name, int parameters, String thrown) {
        return name + "/" + parameters + " " + thrown;
    }

    private static void checkCalls(String page) {
        TreeSet<String> inPage = new TreeSet<>();
        Matcher rows = ROW.matcher(page);
        while (rows.find()) {
            String names = rows.group(2);
            int parameters = names.isEmpty() ? 0 : names.split(",").length;
            inPage.add(row(rows.group(1), parameters, rows.group(3).strip()));
        }
        TreeSet<String> got = new TreeSet<>();
        for (Method method : Delaypouch.class.getDeclaredMethods()) {
            if (Modifier.isPublic(method.getModifiers())) {
                got.add(row(method.getName(), method.getParameterCount(), thrown(method)));
            }
        }
        same("the calls", inPage, got);
    }

    private static String thrown(Method method) {
        StringBuilder kinds = new StringBuilder();
        for (Class<?> kind : method.getExceptionTypes()) {
            String name = kind.getSimpleName();
            kinds.append(kinds.length() == 0 ? "" : ", ").append(name
                    .replace("OutOfBounds", "").replace("Illegal", "").replace("Exception", ""));
        }
        return kinds.toString();
    }

    private static void checkTests(String page) throws IOException {
        TreeSet<String> inPage = new TreeSet<>();
        Matcher tests = TEST.matcher(page);
        while (tests.find()) {
            inPage.add(tests.group(1));
        }
        TreeSet<String> got = new TreeSet<>();
        try (Stream<Path> files = Files.list(Path.of("tests"))) {
            files.map(file -> file.getFileName().toString())
                    .filter(name -> name.endsWith(".java")).forEach(got::add);
        }
        same("the tests", inPage, got);
    }
}
