import java.lang.reflect.Constructor;
import java.lang.reflect.Field;
import java.lang.reflect.Method;
import java.lang.reflect.Modifier;
import java.util.Arrays;
import java.util.List;
import java.util.TreeSet;

/** The class has the document's face: its constants, constructor and methods, and no other member to be seen. */
public final class FaceTest {
    private static final List<String> METHODS = Arrays.asList(
            "int load(int, long, int)", "int push(int, long)", "int reckon(int, int, int, int)",
            "int divide(int, int, int, int, int)", "int part(int, int, int, int)", "int scale(int, int, int, int)",
            "int round(int, int, int, int)", "int turn(int, int, int)", "int move(int, int, int, int)",
            "int power(int, int, int)", "int compare(int, int)", "boolean same(int, int)", "int look(int, int)",
            "int digit(int, int)", "long whole(int)", "int write(int)", "int octet(int)");

    private static final Check CHECK = new Check();

    public static void main(String[] args) throws IllegalAccessException {
        classItself();
        constants();
        constructor();
        methods();
        classesInside();
        CHECK.end("FaceTest");
    }

    private static void classItself() {
        int modifiers = DecimalRegisters.class.getModifiers();
        CHECK.due("public", Modifier.isPublic(modifiers), true);
        CHECK.due("final", Modifier.isFinal(modifiers), true);
        CHECK.due("package", DecimalRegisters.class.getPackageName(), "");
    }

    private static void constants() throws IllegalAccessException {
        TreeSet<String> seen = new TreeSet<>();
        for (Field field : DecimalRegisters.class.getDeclaredFields()) {
            int modifiers = field.getModifiers();
            CHECK.due(field.getName() + " is final if it is static",
                    Modifier.isFinal(modifiers) || !Modifier.isStatic(modifiers), true);
            if (!Modifier.isPrivate(modifiers)) {
                seen.add(Modifier.toString(modifiers) + " " + field.getType() + " " + field.getName() + " "
                        + field.getInt(null));
            }
        }
        CHECK.due("constants", seen.toString(), "[public static final int FULL -3, public static final int INEXACT -4, "
                + "public static final int NONE -2, public static final int REFUSED -1]");
    }

    private static void constructor() {
        Constructor<?>[] all = DecimalRegisters.class.getDeclaredConstructors();
        CHECK.due("constructors", all.length, 1);
        CHECK.due("constructor", all[0].toString(), "public DecimalRegisters()");
    }

    private static void methods() {
        TreeSet<String> seen = new TreeSet<>();
        for (Method method : DecimalRegisters.class.getDeclaredMethods()) {
            int modifiers = method.getModifiers();
            if (!Modifier.isPrivate(modifiers)) {
                seen.add(told(method));
                CHECK.due(method + " is public", Modifier.toString(modifiers), "public");
            }
        }
        CHECK.due("methods", seen.toString(), new TreeSet<>(METHODS).toString());
    }

    private static String told(Method method) {
        String types = Arrays.toString(method.getParameterTypes());
        return method.getReturnType() + " " + method.getName() + "(" + types.substring(1, types.length() - 1) + ")";
    }

    private static void classesInside() {
        for (Class<?> inside : DecimalRegisters.class.getDeclaredClasses()) {
            int modifiers = inside.getModifiers();
            CHECK.due(inside + " is static", Modifier.isStatic(modifiers), true);
            CHECK.due(inside + " is not public or protected",
                    Modifier.isPublic(modifiers) || Modifier.isProtected(modifiers), false);
        }
    }
}
