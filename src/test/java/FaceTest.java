import java.lang.reflect.Constructor;
import java.lang.reflect.Field;
import java.lang.reflect.Method;
import java.lang.reflect.Modifier;
import java.util.Set;
import java.util.TreeSet;

/** The public face: every constant, constructor and method of the document, and no other member that can be seen. */
public final class FaceTest {
    private static final String[] METHODS = {
        "int write(int,int,int,int)", "int wipe()", "int release(int)", "int need(int,int,int,boolean)",
        "int needHost(int,int)", "int withdraw(int,int,boolean)", "int host()", "int ask(int)", "int unask(int)",
        "int compare(int,int,int,int)", "int rank(int)", "int within(int,int)", "int solve()", "int chosen(int)",
        "boolean blamed(int)", "int unmet()", "int count(int)"};
    private static final String[] CONSTANTS = {"REFUSED", "FULL", "BAD", "NONE", "TWICE"};

    public static void main(String[] args) {
        Checks checks = new Checks();
        checks.due("public final class", Modifier.isFinal(ReleaseSolver.class.getModifiers())
                && Modifier.isPublic(ReleaseSolver.class.getModifiers()), true);
        checks.due("REFUSED", ReleaseSolver.REFUSED, -1);
        checks.due("FULL", ReleaseSolver.FULL, -2);
        checks.due("BAD", ReleaseSolver.BAD, -3);
        checks.due("NONE", ReleaseSolver.NONE, -4);
        checks.due("TWICE", ReleaseSolver.TWICE, -5);
        checks.due("methods are " + methods(), methods().equals(new TreeSet<>(Set.of(METHODS))), true);
        checks.due("constants are " + constants(), constants().equals(new TreeSet<>(Set.of(CONSTANTS))), true);
        Constructor<?>[] constructors = ReleaseSolver.class.getDeclaredConstructors();
        checks.due("constructors", constructors.length, 1);
        checks.due("constructor without arguments", constructors[0].getParameterCount(), 0);
        for (Class<?> inside : ReleaseSolver.class.getDeclaredClasses()) {
            checks.due(inside + " is static", Modifier.isStatic(inside.getModifiers()), true);
            checks.due(inside + " is public", Modifier.isPublic(inside.getModifiers()), false);
        }
        checks.end();
    }

    private static Set<String> methods() {
        Set<String> seen = new TreeSet<>();
        for (Method method : ReleaseSolver.class.getDeclaredMethods()) {
            if (!Modifier.isPrivate(method.getModifiers()) && !method.isSynthetic()) {
                StringBuilder row = new StringBuilder();
                for (Class<?> type : method.getParameterTypes()) {
                    row.append(row.length() == 0 ? "" : ",").append(type.getSimpleName());
                }
                seen.add(method.getReturnType().getSimpleName() + " " + method.getName() + "(" + row + ")");
            }
        }
        return seen;
    }

    private static Set<String> constants() {
        Set<String> seen = new TreeSet<>();
        for (Field field : ReleaseSolver.class.getDeclaredFields()) {
            if (!Modifier.isPrivate(field.getModifiers()) && !field.isSynthetic()) {
                seen.add(field.getName());
            }
        }
        return seen;
    }
}
