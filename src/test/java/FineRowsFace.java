import java.lang.reflect.Constructor;
import java.lang.reflect.Field;
import java.lang.reflect.Method;
import java.lang.reflect.Modifier;
import java.util.Arrays;
import java.util.List;
import java.util.Set;
import java.util.TreeSet;

/** The class's face: the members that the document names, and no other one that is not private. */
public final class FineRowsFace {
    private static final Due due = new Due();
    private static final Set<String> METHODS = new TreeSet<>(List.of(
            "int rule(int, int, int)",
            "int interest(int, int, int) throws ArithmeticException",
            "int closed(long)",
            "int loan(int, int, int, long)",
            "long overdue(int, long)",
            "int back(int, long)",
            "int lost(int, int, long)",
            "long found(int, long)",
            "int pay(int, int)",
            "long waive(int, int)",
            "long owes(int, long)",
            "long plan(int, int, int)",
            "int threshold(int)",
            "boolean blocked(int)",
            "long debt(int, int)",
            "long share(int, int, int)"));

    public static void main(String[] args) {
        due.part("face");
        Class<?> face = FineRows.class;
        due.is("public and final", face.getModifiers(), Modifier.PUBLIC | Modifier.FINAL);
        due.is("no package", face.getPackageName().isEmpty(), true);
        methods(face);
        fields(face);
        constructors(face);
        for (Class<?> inside : face.getDeclaredClasses()) {
            due.is(inside + " static", Modifier.isStatic(inside.getModifiers()), true);
            due.is(inside + " public", Modifier.isPublic(inside.getModifiers()), false);
            due.is(inside + " protected", Modifier.isProtected(inside.getModifiers()), false);
        }
        due.end();
    }

    private static void methods(Class<?> face) {
        Set<String> open = new TreeSet<>();
        Set<String> openNames = new TreeSet<>();
        Set<String> hiddenNames = new TreeSet<>();
        for (Method method : face.getDeclaredMethods()) {
            if (Modifier.isPrivate(method.getModifiers())) {
                hiddenNames.add(method.getName());
            } else {
                open.add(described(method));
                openNames.add(method.getName());
                due.is(method + " modifiers", method.getModifiers(), Modifier.PUBLIC);
            }
        }
        if (!open.equals(METHODS)) {
            due.fail("the methods are " + open + ", due are " + METHODS);
        }
        hiddenNames.retainAll(openNames);
        due.is("private methods with a public one's name: " + hiddenNames, hiddenNames.size(), 0);
    }

    private static String described(Method method) {
        String parameters = Arrays.toString(method.getParameterTypes());
        String text = method.getReturnType() + " " + method.getName()
                + "(" + parameters.substring(1, parameters.length() - 1) + ")";
        for (Class<?> thrown : method.getExceptionTypes()) {
            text += " throws " + thrown.getSimpleName();
        }
        return text;
    }

    private static void fields(Class<?> face) {
        for (Field field : face.getDeclaredFields()) {
            int modifiers = field.getModifiers();
            if (field.getName().equals("NONE")) {
                due.is("NONE's modifiers", modifiers, Modifier.PUBLIC | Modifier.STATIC | Modifier.FINAL);
                due.is("NONE is an int", field.getType() == int.class, true);
            } else {
                due.is(field + " private", Modifier.isPrivate(modifiers), true);
            }
            if (Modifier.isStatic(modifiers)) {
                due.is(field + " final", Modifier.isFinal(modifiers), true);
            }
        }
    }

    private static void constructors(Class<?> face) {
        Constructor<?>[] all = face.getDeclaredConstructors();
        due.is("constructors", all.length, 1);
        due.is("its modifiers", all[0].getModifiers(), Modifier.PUBLIC);
        due.is("its parameters", all[0].getParameterCount(), 0);
    }
}
