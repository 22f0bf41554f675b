import java.io.IOException;
import java.lang.reflect.Constructor;
import java.lang.reflect.Field;
import java.lang.reflect.Method;
import java.lang.reflect.Modifier;
import java.nio.file.Files;
import java.nio.file.Path;
import java.util.Arrays;
import java.util.HashSet;
import java.util.List;
import java.util.Set;
import java.util.TreeSet;
import java.util.regex.Matcher;
import java.util.regex.Pattern;

/** The public face is the document's and no more; the source holds nothing that LANGUAGE.md or the document rules out. */
public final class FaceTest {
    private static final Path SOURCE = Path.of("src/main/java/NearGroups.java");

    private static final List<String> FACE = List.of(
            "int columns(int)", "int row(int, int, int, int)", "int clear()", "int count(int)",
            "int distance(int, int, int)", "int near(int, int, int)", "int means(int, int)",
            "int medoids(int, int, int)", "int medoid(int)", "int density(int, int, int, int)",
            "int tree(int, int)", "long join(int, int)", "int cut(int, int)", "int of(int, int)",
            "int size(int, int)", "int mean(int, int, int, int)", "long sum(int, int)",
            "long well(int, int, int, int)", "int agree(int)");

    private static final List<String> RULED_OUT = List.of(
            "^package ", "^import ", "->", "::", "\\btry\\b", "\\bcatch\\b", "\\bfinally\\b", "\\bthrow\\b",
            "\\bsynchronized\\b", "\\bassert\\b", "Exact\\b", "\\bdouble\\b", "\\bfloat\\b", "\\bSystem\\.(?!arraycopy)",
            "\\bRandom\\b", "\\bMath\\.(?!(abs|max|min)\\()", "\\b(Integer|Long|Arrays|String|StringBuilder|Object)\\b");

    private static final Pattern METHOD = Pattern.compile("( +)[\\w\\[\\] ]+\\([^;]*\\) \\{");
    private static final int MOST_LINES = 60;

    private static int wrong = 0;

    public static void main(String[] args) throws IOException {
        checkMethods();
        checkConstants();
        checkNestedClasses();
        checkSource();
        checkMethodsAreShort();
        System.out.println(wrong == 0 ? "the face is as due" : wrong + " things are not as due");
        if (wrong != 0) System.exit(1);
    }

    private static void due(String what, boolean holds) {
        if (holds) return;
        wrong++;
        System.out.println(what);
    }

    private static String told(Method method) {
        String parameters = String.join(", ", Arrays.stream(method.getParameterTypes()).map(Class::getName).toList());
        return method.getReturnType().getName() + " " + method.getName() + "(" + parameters + ")";
    }

    private static void checkMethods() {
        due("the class is public and final", (NearGroups.class.getModifiers() & (Modifier.PUBLIC | Modifier.FINAL)) == (Modifier.PUBLIC | Modifier.FINAL));
        Set<String> seen = new TreeSet<>();
        Set<String> names = new HashSet<>();
        for (Method method : NearGroups.class.getDeclaredMethods()) {
            if (Modifier.isPrivate(method.getModifiers())) continue;
            seen.add(told(method));
            names.add(method.getName());
            due(method + " is public and not static", method.getModifiers() == Modifier.PUBLIC);
        }
        due("the methods are " + seen, seen.equals(new TreeSet<>(FACE)));
        for (Class<?> type : typesOf()) {
            for (Method method : type.getDeclaredMethods()) {
                due(method + " bears a public name", type == NearGroups.class && Modifier.isPublic(method.getModifiers()) || !names.contains(method.getName()));
                due(method + " has too many parameters", method.getParameterCount() <= 7);
            }
        }
        Constructor<?>[] made = NearGroups.class.getDeclaredConstructors();
        due("one public constructor without parameters", made.length == 1 && Modifier.isPublic(made[0].getModifiers()) && made[0].getParameterCount() == 0);
    }

    private static List<Class<?>> typesOf() {
        List<Class<?>> types = new java.util.ArrayList<>(List.of(NearGroups.class.getDeclaredClasses()));
        types.add(NearGroups.class);
        return types;
    }

    private static void checkConstants() {
        Set<String> seen = new TreeSet<>();
        for (Field field : NearGroups.class.getDeclaredFields()) {
            if (Modifier.isPrivate(field.getModifiers())) continue;
            seen.add(field.getName());
            due(field + " is a constant of int", field.getType() == int.class && field.getModifiers() == (Modifier.PUBLIC | Modifier.STATIC | Modifier.FINAL));
        }
        due("the constants are " + seen, seen.equals(new TreeSet<>(List.of("NONE", "UNKNOWN", "OUTSIDE", "STATE", "ROOM"))));
        due("NONE", NearGroups.NONE == -1);
        due("UNKNOWN", NearGroups.UNKNOWN == -2000000001);
        due("OUTSIDE", NearGroups.OUTSIDE == -2000000002);
        due("STATE", NearGroups.STATE == -2000000003);
        due("ROOM", NearGroups.ROOM == -2000000004);
    }

    private static void checkNestedClasses() {
        due("at most twelve classes", typesOf().size() <= 12);
        for (Class<?> type : typesOf()) {
            int fields = 0;
            for (Field field : type.getDeclaredFields()) {
                if (Modifier.isStatic(field.getModifiers())) due(field + " is no constant of int", Modifier.isFinal(field.getModifiers()) && field.getType() == int.class);
                else fields++;
            }
            due(type + " has " + fields + " fields", fields <= 20);
            due(type + " is not static", type == NearGroups.class || Modifier.isStatic(type.getModifiers()));
        }
    }

    private static void checkSource() throws IOException {
        List<String> lines = Files.readAllLines(SOURCE);
        for (String line : lines) {
            String code = line.strip();
            if (code.startsWith("//") || code.startsWith("*") || code.startsWith("/*")) continue;
            for (String rule : RULED_OUT) due("ruled out by " + rule + ": " + line, !Pattern.compile(rule).matcher(line).find());
        }
    }

    private static void checkMethodsAreShort() throws IOException {
        List<String> lines = Files.readAllLines(SOURCE);
        int methods = 0;
        for (int start = 0; start < lines.size(); start++) {
            Matcher method = METHOD.matcher(lines.get(start));
            // deeper than a nested class's methods stand the loops and conditions
            if (!method.matches() || method.group(1).length() > 8 || lines.get(start).matches(" +(if|for|while|switch) .*")) continue;
            int end = start + lines.subList(start, lines.size()).indexOf(method.group(1) + "}");
            methods++;
            due(lines.get(start).strip() + " has no end", end > start);
            due(lines.get(start).strip() + " is too long", end - start < MOST_LINES);
        }
        due("only " + methods + " methods were found", methods > FACE.size());
    }
}
