import java.lang.reflect.Constructor;
import java.lang.reflect.Field;
import java.lang.reflect.Method;
import java.lang.reflect.Modifier;
import java.util.Arrays;
import java.util.Set;
import java.util.TreeSet;

/** The public face: the document's constants, constructor and methods, and no other. */
public final class FaceTest {
    private static final String OUT = "IndexOutOfBoundsException";
    private static final String ARGUMENT = "IllegalArgumentException";
    private static final String STATE = "IllegalStateException";
    private static final String FULL = "UnsupportedOperationException";

    private static String methodLine(Method m) {
        StringBuilder line = new StringBuilder(m.getReturnType().getSimpleName() + " " + m.getName());
        for (Class<?> p : m.getParameterTypes()) {
            line.append(' ').append(p.getSimpleName());
        }
        for (Class<?> e : m.getExceptionTypes()) {
            line.append(" !").append(e.getSimpleName());
        }
        return line.toString();
    }

    private static Set<String> methods() {
        Set<String> lines = new TreeSet<>();
        for (Method m : ArrayClaims.class.getDeclaredMethods()) {
            if (!Modifier.isPrivate(m.getModifiers())) {
                lines.add((Modifier.isPublic(m.getModifiers()) ? "" : "not public: ") + methodLine(m));
            }
        }
        return lines;
    }

    private static Set<String> fields() {
        Set<String> lines = new TreeSet<>();
        for (Field f : ArrayClaims.class.getDeclaredFields()) {
            if (!Modifier.isPrivate(f.getModifiers())) {
                lines.add(Modifier.toString(f.getModifiers()) + " " + f.getType() + " " + f.getName());
            }
        }
        return lines;
    }

    private static void methodsAreTheDocuments(Checks checks) {
        Set<String> due = new TreeSet<>(Arrays.asList(
                "int select int int !" + OUT + " !" + ARGUMENT + " !" + FULL,
                "int store int int int !" + OUT + " !" + ARGUMENT + " !" + FULL,
                "int terms", "int sort int",
                "int literal int int boolean !" + OUT + " !" + ARGUMENT + " !" + STATE,
                "int draft", "void clear", "int claim !" + STATE + " !" + FULL,
                "boolean keep int", "int claims", "boolean can", "int first",
                "boolean without int !" + OUT,
                "int same int int !" + OUT + " !" + ARGUMENT + " !" + STATE,
                "boolean follows !" + STATE, "int apart boolean !" + STATE));
        Set<String> got = methods();
        checks.dueTrue("methods " + got, got.equals(due));
    }

    private static void constantsAreTheDocuments(Checks checks) {
        Set<String> due = new TreeSet<>();
        for (String name : new String[] {"NONE", "NEVER", "ALWAYS", "MAYBE"}) {
            due.add("public static final int " + name);
        }
        Set<String> got = fields();
        checks.dueTrue("fields " + got, got.equals(due));
        checks.due("NONE", -1, () -> ArrayClaims.NONE);
        checks.due("NEVER", 0, () -> ArrayClaims.NEVER);
        checks.due("ALWAYS", 1, () -> ArrayClaims.ALWAYS);
        checks.due("MAYBE", 2, () -> ArrayClaims.MAYBE);
    }

    private static void theClassAndItsConstructor(Checks checks) {
        int modifiers = ArrayClaims.class.getModifiers();
        checks.dueTrue("a public final class", Modifier.isPublic(modifiers) && Modifier.isFinal(modifiers));
        Constructor<?>[] made = ArrayClaims.class.getDeclaredConstructors();
        checks.dueTrue("one public constructor without arguments",
                made.length == 1 && Modifier.isPublic(made[0].getModifiers()) && made[0].getParameterCount() == 0);
    }

    private static void classesInsideAreNoPartOfIt(Checks checks) {
        for (Class<?> inside : ArrayClaims.class.getDeclaredClasses()) {
            int hidden = inside.getModifiers();
            checks.dueTrue("a class inside is static and not of the face: " + inside.getSimpleName(),
                    Modifier.isStatic(hidden) && !Modifier.isPublic(hidden) && !Modifier.isProtected(hidden));
        }
    }

    /** LANGUAGE.md, rule 1: "No private method bears the name of a public one." */
    private static void namesOfTheFaceAreItsOwn(Checks checks) {
        Set<String> open = new TreeSet<>();
        Set<String> hidden = new TreeSet<>();
        for (Method m : ArrayClaims.class.getDeclaredMethods()) {
            (Modifier.isPublic(m.getModifiers()) ? open : hidden).add(m.getName());
        }
        hidden.retainAll(open);
        checks.dueTrue("private methods with a public one's name: " + hidden, hidden.isEmpty());
    }

    public static void main(String[] args) {
        Checks checks = new Checks();
        theClassAndItsConstructor(checks);
        methodsAreTheDocuments(checks);
        constantsAreTheDocuments(checks);
        classesInsideAreNoPartOfIt(checks);
        namesOfTheFaceAreItsOwn(checks);
        checks.end();
    }
}
