import java.lang.reflect.Constructor;
import java.lang.reflect.Field;
import java.lang.reflect.Method;
import java.lang.reflect.Modifier;
import java.util.TreeSet;

/** The public face is that of the document, and nothing more. */
public final class FaceTest {
    private static final String METHODS = "int height(int,int);int line(int,int);int set(int,int);int cellTold(int,int);"
        + "int mark(int,int,int,int);int walk(int,int);int gone(int,int);int markTold(int,int);int at(int,int);"
        + "int sight(int,int);long sees(int,int);long view(int,int);int feed(int,long);int text();int force(int,int);"
        + "long says(int,int,int,int);int breaches(int,int);int astray(int);int permit(int,int,int,int,int);"
        + "int may(int,int,int);int doing(int,int,int);int report(int,int,int,int);int takeBack(int);int lets(int,int);"
        + "int left();int worst(int,int,int);int look(int);int finding(int,int,int);int standing();int hold(int,int);"
        + "int shots(int,int,int);int calm(int,int,int,int);int list(int);int cover(int,int,int);"
        + "int drawBack(int,int,int);int strength(int);int protest(int,int,int);int answer(int,int);int late(int);"
        + "int blame(int);int listed(int,int,int);long alone(int);int count(int);int sheet(int,int,int);"
        + "int cell(int,int,int);int copy(int,int,int,int,int);int heights(int,int,int,int,int);int taken(int,int)";

    public static void main(String[] args) {
        Due due = new Due();
        due.is("NONE", TruceLine.NONE, -1);
        due.is("BAD", TruceLine.BAD, -2);
        due.is("STATE", TruceLine.STATE, -3);
        due.is("FULL", TruceLine.FULL, -4);
        due.is("NO", TruceLine.NO, -4611686018427387904L);
        due.same("methods", openMethods(), sorted(METHODS.split(";")));
        due.same("fields", openFields(), sorted(new String[] {"int NONE", "int BAD", "int STATE", "int FULL", "long NO"}));
        due.is("constructors", TruceLine.class.getDeclaredConstructors().length, 1);
        for (Constructor<?> c : TruceLine.class.getDeclaredConstructors()) {
            due.is("constructor's parameters", c.getParameterCount(), 0);
        }
        due.is("final", Modifier.isFinal(TruceLine.class.getModifiers()) ? 1 : 0, 1);
        checkInside(due);
        due.end();
    }

    /** The names of all calls of the document. */
    static String[] names() {
        return METHODS.replaceAll("(?:int|long) (\\w+)\\([a-z,]*\\)", "$1").split(";");
    }

    private static void checkInside(Due due) {
        int classes = 1;
        for (Class<?> c : TruceLine.class.getDeclaredClasses()) {
            classes++;
            due.is(c + " is static", Modifier.isStatic(c.getModifiers()) ? 1 : 0, 1);
            due.is(c + " is public", Modifier.isPublic(c.getModifiers()) ? 1 : 0, 0);
            due.is(c + " has too many fields", Math.max(20, fieldsOf(c)), 20);
        }
        due.is("classes beyond twelve", Math.max(12, classes), 12);
    }

    private static int fieldsOf(Class<?> c) {
        int n = 0;
        for (Field f : c.getDeclaredFields()) {
            if (!Modifier.isStatic(f.getModifiers())) n++;
        }
        return n;
    }

    private static String openMethods() {
        TreeSet<String> found = new TreeSet<>();
        for (Method m : TruceLine.class.getDeclaredMethods()) {
            if (Modifier.isPrivate(m.getModifiers()) || m.isSynthetic()) continue;
            StringBuilder s = new StringBuilder(m.getReturnType() + " " + m.getName() + "(");
            for (Class<?> p : m.getParameterTypes()) s.append(s.charAt(s.length() - 1) == '(' ? "" : ",").append(p);
            found.add(s + ")");
        }
        return found.toString();
    }

    private static String openFields() {
        TreeSet<String> found = new TreeSet<>();
        for (Field f : TruceLine.class.getDeclaredFields()) {
            if (!Modifier.isPrivate(f.getModifiers())) found.add(f.getType() + " " + f.getName());
        }
        return found.toString();
    }

    private static String sorted(String[] texts) {
        return new TreeSet<>(java.util.List.of(texts)).toString();
    }
}
