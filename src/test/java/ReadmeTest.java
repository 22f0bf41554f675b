import java.io.IOException;
import java.io.StringWriter;
import java.lang.reflect.Field;
import java.lang.reflect.Method;
import java.lang.reflect.Modifier;
import java.net.URL;
import java.net.URLClassLoader;
import java.nio.file.Files;
import java.nio.file.Path;
import java.util.ArrayList;
import java.util.HashSet;
import java.util.List;
import java.util.Set;
import java.util.regex.Matcher;
import java.util.regex.Pattern;
import java.util.stream.Stream;
import javax.tools.JavaCompiler;
import javax.tools.StandardJavaFileManager;
import javax.tools.ToolProvider;

/**
 * The calls that README.md shows answer what README.md says. Its Java lines are compiled as they stand,
 * so they are Java too; only a call with its answer behind it is put into a check of that answer.
 */
public final class ReadmeTest {
    private static final Path README = Path.of("README.md");
    private static final Path TESTS = Path.of("src/test/java");
    private static final String MADE = "ReadmeCalls";

    private static final Pattern CALL_LINE = Pattern.compile("(\\w+\\.(\\w+)\\([^()]*\\)); +// (-?\\d+|[A-Z]+)(?![\\w/]).*");
    private static final Pattern CALL_WITH_NUMBERS = Pattern.compile("\\b\\w+\\.?\\w+\\(-?\\d[-\\d, ]*\\)");

    private static final Set<String> callsShown = new HashSet<>();
    private static final Set<String> answersShown = new HashSet<>();
    private static int shown = 0;
    private static int made = 0;
    private static int wrong = 0;

    public static void main(String[] args) throws Exception {
        List<String> lines = Files.readAllLines(README);
        runCalls(checksOf(lines));
        checkNothingIsLeftOut(lines);
        checkTables(lines);
        checkTestsAreNamed(lines);
        System.out.println(wrong == 0 ? "all " + made + " calls of README.md answer as it says" : wrong + " things in README.md do not hold");
        if (wrong != 0) System.exit(1);
    }

    /** For the class that is made of the lines of README.md. */
    public static void due(String call, long got, long want) {
        made++;
        if (got != want) fault(call + " answers " + got + ", README.md says " + want);
    }

    private static void fault(String what) {
        wrong++;
        System.out.println(what);
    }

    private static List<String> checksOf(List<String> lines) {
        List<String> checks = new ArrayList<>();
        boolean java = false;
        for (String line : lines) {
            if (line.startsWith("```")) java = line.equals("```java");
            else if (java) checks.add(checkOf(line));
        }
        return checks;
    }

    private static String checkOf(String line) {
        Matcher call = CALL_LINE.matcher(line);
        if (!call.matches()) {
            if (line.matches("\\w+\\.\\w+\\(.*")) fault("a call without its answer: " + line);
            return line;
        }
        shown++;
        callsShown.add(call.group(2));
        answersShown.add(call.group(3));
        String answer = Character.isLetter(call.group(3).charAt(0)) ? "NearGroups." + call.group(3) : call.group(3);
        return "ReadmeTest.due(\"" + call.group(1) + "\", " + call.group(1) + ", " + answer + ");";
    }

    private static void runCalls(List<String> checks) throws Exception {
        Path place = Files.createTempDirectory("readme");
        Path source = place.resolve(MADE + ".java");
        Files.writeString(source, "public final class " + MADE + " {\n    public static void run() {\n"
                + String.join("\n", checks) + "\n    }\n}\n");
        if (compile(source, place)) {
            try (URLClassLoader loader = new URLClassLoader(new URL[] {place.toUri().toURL()}, ReadmeTest.class.getClassLoader())) {
                loader.loadClass(MADE).getMethod("run").invoke(null);
            }
        } else {
            fault("the Java lines of README.md do not compile");
        }
        remove(place);
    }

    private static boolean compile(Path source, Path place) throws IOException {
        JavaCompiler compiler = ToolProvider.getSystemJavaCompiler();
        if (compiler == null) {
            fault("there is no compiler for the lines of README.md");
            return false;
        }
        StringWriter complaints = new StringWriter();
        List<String> options = List.of("--release", "17", "-cp", System.getProperty("java.class.path"), "-d", place.toString());
        try (StandardJavaFileManager files = compiler.getStandardFileManager(null, null, null)) {
            boolean compiled = compiler.getTask(complaints, files, null, options, null, files.getJavaFileObjects(source)).call();
            System.out.print(complaints);
            return compiled;
        }
    }

    private static void remove(Path place) throws IOException {
        try (Stream<Path> parts = Files.list(place)) {
            for (Path part : parts.toList()) Files.delete(part);
        }
        Files.delete(place);
    }

    /** A call that stood elsewhere in README.md would not be run; a call or an answer that never stood there would not be told. */
    private static void checkNothingIsLeftOut(List<String> lines) {
        if (made != shown) fault(made + " calls were made of " + shown);
        for (String line : lines) {
            Matcher call = CALL_WITH_NUMBERS.matcher(line);
            int calls = 0;
            while (call.find()) calls++;
            if (calls > (CALL_LINE.matcher(line).matches() ? 1 : 0)) fault("a call that is not run: " + line);
        }
        for (Method method : NearGroups.class.getDeclaredMethods()) {
            if (Modifier.isPublic(method.getModifiers()) && !callsShown.contains(method.getName())) fault("README.md does not show " + method);
        }
        for (Field constant : constants()) {
            if (!answersShown.contains(constant.getName())) fault("README.md shows no call that answers " + constant.getName());
        }
    }

    private static List<Field> constants() {
        return Stream.of(NearGroups.class.getDeclaredFields()).filter(field -> Modifier.isPublic(field.getModifiers())).toList();
    }

    private static void checkTables(List<String> lines) throws IllegalAccessException {
        for (Field constant : constants()) {
            String row = "| `" + constant.getName() + "` | " + constant.getInt(null) + " | ";
            if (lines.stream().noneMatch(line -> line.startsWith(row))) fault("README.md has no row " + row);
        }
        for (Method method : NearGroups.class.getDeclaredMethods()) {
            if (!Modifier.isPublic(method.getModifiers())) continue;
            String parameters = String.join(", ", Stream.generate(() -> "\\w+").limit(method.getParameterCount()).toList());
            String row = "\\| `" + method.getName() + "\\(" + parameters + "\\)` \\| .*";
            if (lines.stream().filter(line -> line.matches(row)).count() != 1) fault("README.md has not one row for " + method);
        }
    }

    private static void checkTestsAreNamed(List<String> lines) throws IOException {
        if (!lines.contains(".ci/run")) fault("README.md does not tell the command that runs the tests");
        try (Stream<Path> files = Files.list(TESTS)) {
            for (Path file : files.toList()) {
                String name = "`" + file.getFileName().toString().replace(".java", "") + "`";
                if (lines.stream().noneMatch(line -> line.contains(name))) fault("README.md does not name " + name);
            }
        }
    }
}
