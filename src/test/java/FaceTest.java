import java.io.IOException;
import java.lang.reflect.Constructor;
import java.lang.reflect.Field;
import java.lang.reflect.Method;
import java.lang.reflect.Modifier;
import java.util.Arrays;
import java.util.Set;
import java.util.TreeSet;

/** The public face is the document's, and nothing more can be seen from outside. */
public final class FaceTest extends Trial {
    private static final Set<String> METHODS = new TreeSet<>(Arrays.asList(
        "int code(char)", "int rules()", "void forget()", "void restart()", "boolean write(char)", "int settle()",
        "int finish()", "int length()", "int letter(int)", "int cursor()", "int applied()", "int latest()",
        "boolean stuck()", "int probe(int,boolean)"));

    private static final Set<String> CONSTANTS = new TreeSet<>(Arrays.asList(
        "NONE = -1", "TAKEN = 0", "DEFINED = 1", "ADDED = 10", "SYNTAX = -1", "UNDEFINED = -2", "SEGMENT = -3", "LIMIT = -4",
        "MASKED = -5", "REFUSED = -6", "NO_MATCH = 0", "MATCH = 1", "PENDING = 2"));

    private static String shape(Method m) {
        StringBuilder words = new StringBuilder(m.getReturnType().getName()).append(' ').append(m.getName()).append('(');
        for (Class<?> type : m.getParameterTypes()) {
            words.append(words.charAt(words.length() - 1) == '(' ? "" : ",").append(type.getName());
        }
        return words.append(')').toString();
    }

    private static void methodsAreTheDocuments() {
        Set<String> seen = new TreeSet<>();
        Set<String> publicNames = new TreeSet<>();
        for (Method m : CursorRewriter.class.getDeclaredMethods()) {
            if (!Modifier.isPrivate(m.getModifiers())) {
                seen.add((Modifier.isPublic(m.getModifiers()) ? "" : "hidden ") + shape(m));
                publicNames.add(m.getName());
            }
        }
        due.same("methods", seen.toString(), METHODS.toString());
        for (Method m : CursorRewriter.class.getDeclaredMethods()) {
            if (Modifier.isPrivate(m.getModifiers())) {
                due.same("private " + m.getName() + " bears a public name", publicNames.contains(m.getName()), false);
            }
        }
    }

    /** The constants that can be seen from outside, with their values. */
    private static Set<String> constants() throws IllegalAccessException {
        Set<String> seen = new TreeSet<>();
        for (Field f : CursorRewriter.class.getDeclaredFields()) {
            if (!Modifier.isPrivate(f.getModifiers())) {
                due.same("how " + f.getName() + " is declared", f.getModifiers(), Modifier.PUBLIC | Modifier.STATIC | Modifier.FINAL);
                due.same("type of " + f.getName(), f.getType().getName(), "int");
                seen.add(f.getName() + " = " + f.get(null));
            }
        }
        return seen;
    }

    private static void has(Set<String> seen, String... asked) {
        for (String constant : asked) {
            due.same(constant, seen.contains(constant), true);
        }
    }

    private static void constantsAreTheDocuments() throws IllegalAccessException {
        on("The public face");
        Set<String> seen = constants();
        due.same("constants", seen.toString(), CONSTANTS.toString());
        sentence("Promise 2 (Terms)", "TAKEN = 0, DEFINED = 1, ADDED = 10, SYNTAX = -1, UNDEFINED = -2, SEGMENT = -3, LIMIT = -4, MASKED = -5, REFUSED = -6`: Answers of code.");
        has(seen, "TAKEN = 0", "DEFINED = 1", "ADDED = 10", "SYNTAX = -1", "UNDEFINED = -2", "SEGMENT = -3", "LIMIT = -4", "MASKED = -5",
            "REFUSED = -6");
        sentence("Promise 15 (Terms)", "NO_MATCH = 0, MATCH = 1, PENDING = 2`: Answers of probe.");
        has(seen, "NO_MATCH = 0", "MATCH = 1", "PENDING = 2");
        sentence("Promises 13 and 15", "public static final int NONE = -1;");
        has(seen, "NONE = -1");
    }

    private static void classesAreStaticAndHidden() {
        for (Class<?> inside : CursorRewriter.class.getDeclaredClasses()) {
            due.same(inside.getName() + " is static", Modifier.isStatic(inside.getModifiers()), true);
            due.same(inside.getName() + " is public", Modifier.isPublic(inside.getModifiers()), false);
            due.same(inside.getName() + " is protected", Modifier.isProtected(inside.getModifiers()), false);
        }
    }

    public static void main(String[] args) throws IllegalAccessException, IOException {
        on("The public face");
        due.same("public final class", CursorRewriter.class.getModifiers(), Modifier.PUBLIC | Modifier.FINAL);
        Constructor<?>[] made = CursorRewriter.class.getDeclaredConstructors();
        due.same("constructors", made.length, 1);
        due.same("public constructor", Modifier.isPublic(made[0].getModifiers()), true);
        due.same("parameters of the constructor", made[0].getParameterCount(), 0);
        methodsAreTheDocuments();
        constantsAreTheDocuments();
        on("LANGUAGE.md, rule 1");
        classesAreStaticAndHidden();
        end(args);
    }
}
