import java.io.IOException;
import java.lang.reflect.Field;
import java.lang.reflect.Method;
import java.lang.reflect.Modifier;
import java.nio.file.Files;
import java.nio.file.Path;
import java.util.ArrayList;
import java.util.Arrays;
import java.util.List;
import java.util.Set;
import java.util.TreeSet;
import java.util.regex.Matcher;
import java.util.regex.Pattern;

/**
 * The rules of LANGUAGE.md that can be seen in the class's file, by their numbers. Where the class uses less than a
 * rule leaves (it imports nothing, and makes objects in constructors alone), the test asks for that less. Runs in the
 * project's directory.
 */
public final class LanguageTest {
    private static final Path FILE = Path.of("src/main/java/DecimalRegisters.java");
    private static final Set<String> LIBRARY = Set.of("Math.abs", "Math.floorDiv", "Math.max", "System.arraycopy");
    private static final Set<String> TYPES = Set.of(
            "int", "long", "boolean", "char", "char[]", "long[]", "Decimal", "Decimal[]", "Natural");
    private static final Set<String> STATIC_TYPES = Set.of(
            "int", "long", "boolean", "char", "String", "int[]", "long[]", "char[]", "byte[]");
    private static final Check CHECK = new Check();

    public static void main(String[] args) throws IOException {
        String code = withoutComments(Files.readString(FILE));
        rule1NamesOfMethods();
        rules2And6Words(code);
        rule3Types();
        rule4Library(code);
        rule5StaticFields(code);
        rule9Loops(code);
        rule11Sizes(code);
        rule12Objects(code);
        CHECK.end("LanguageTest");
    }

    private static String withoutComments(String text) {
        return text.replaceAll("(?s)/\\*.*?\\*/", "").replaceAll("//[^\n]*", "");
    }

    private static List<Class<?>> classes() {
        List<Class<?>> classes = new ArrayList<>(Arrays.asList(DecimalRegisters.class.getDeclaredClasses()));
        classes.add(DecimalRegisters.class);
        return classes;
    }

    private static Set<String> found(String pattern, String code) {
        Set<String> found = new TreeSet<>();
        Matcher matcher = Pattern.compile(pattern).matcher(code);
        while (matcher.find()) {
            found.add(matcher.group());
        }
        return found;
    }

    private static void none(String rule, Set<String> found) {
        CHECK.due(rule, found.toString(), "[]");
    }

    /** "No private method bears the name of a public one." */
    private static void rule1NamesOfMethods() {
        Set<String> shown = new TreeSet<>();
        for (Method method : DecimalRegisters.class.getMethods()) {
            shown.add(method.getName());
        }
        Set<String> twice = new TreeSet<>();
        for (Class<?> each : classes()) {
            for (Method method : each.getDeclaredMethods()) {
                if (!Modifier.isPublic(method.getModifiers()) && shown.contains(method.getName())) {
                    twice.add(method.toString());
                }
            }
        }
        none("rule 1", twice);
    }

    private static void rules2And6Words(String code) {
        none("the file's head", found("\\b(package|import)\\b", code));
        none("rule 2", found("->|::|new \\w+\\([^)]*\\)\\s*\\{", code));
        none("rule 3", found("\\b(double|float|Object|var)\\b", code));
        none("rule 6", found("\\b(throws?|try|catch|finally|synchronized|assert|equals|hashCode|toString)\\b", code));
    }

    private static void rule3Types() {
        for (Class<?> each : classes()) {
            for (Field field : each.getDeclaredFields()) {
                CHECK.due("rule 3, " + field, TYPES.contains(field.getType().getSimpleName()), true);
            }
        }
    }

    private static void rule4Library(String code) {
        Set<String> used = found("\\b[A-Z]\\w*[a-z]\\w*\\.\\w+", code);
        used.removeAll(LIBRARY);
        none("rule 4", used);
    }

    private static void rule5StaticFields(String code) {
        for (Class<?> each : classes()) {
            for (Field field : each.getDeclaredFields()) {
                if (Modifier.isStatic(field.getModifiers())) {
                    CHECK.due("rule 5, " + field, Modifier.isFinal(field.getModifiers())
                            && STATIC_TYPES.contains(field.getType().getSimpleName()), true);
                }
            }
        }
        none("rule 5, static blocks", found("static\\s*\\{", code));
    }

    /** "Every loop has an end that can be seen from its own lines": each has a condition that is no constant. */
    private static void rule9Loops(String code) {
        none("rule 9", found("while \\((true|1 == 1)\\)|for \\([^;]*;\\s*(true)?\\s*;", code));
    }

    private static void rule11Sizes(String code) {
        CHECK.due("rule 11, twelve classes", classes().size() <= 12, true);
        for (Class<?> each : classes()) {
            int fields = 0;
            for (Field field : each.getDeclaredFields()) {
                fields += Modifier.isStatic(field.getModifiers()) ? 0 : 1;
            }
            CHECK.due("rule 11, twenty fields of " + each, fields <= 20, true);
            for (Method method : each.getDeclaredMethods()) {
                CHECK.due("rule 11, seven parameters of " + method, method.getParameterCount() <= 7, true);
            }
        }
        for (String method : methods(code)) {
            CHECK.due("rule 11, sixty lines of " + method.strip().split("\n")[0], method.lines().count() <= 60, true);
        }
    }

    /** A method or constructor ends at the brace that stands as far in as its first line. */
    private static List<String> methods(String code) {
        List<String> methods = new ArrayList<>();
        Matcher matcher = Pattern.compile("(?m)^( +)[\\w\\[\\] ]+\\([^()]*\\) \\{$[\\s\\S]*?^\\1\\}$").matcher(code);
        while (matcher.find()) {
            methods.add(matcher.group());
        }
        int all = DecimalRegisters.class.getDeclaredConstructors().length;
        for (Class<?> each : classes()) {
            all += each.getDeclaredMethods().length;
        }
        CHECK.due("methods seen in the file", methods.size(), all);
        return methods;
    }

    /** "What a run makes is counted": the constructor makes all that there is, and no call makes anything. */
    private static void rule12Objects(String code) {
        for (String method : methods(code)) {
            String head = method.strip().split("\n")[0];
            if (!head.equals("public DecimalRegisters() {")) {
                none("rule 12, what is made in " + head, found("\\bnew \\w+|\\.clone\\(|\"", method));
            }
        }
    }
}
