import java.lang.reflect.Constructor;
import java.lang.reflect.Field;
import java.lang.reflect.Method;
import java.lang.reflect.Modifier;
import java.util.Arrays;
import java.util.TreeSet;

/** The public face is the document's, and nothing besides it can be seen from outside. */
public final class FaceTest {
    private static final String METHODS = "int set(int,int) int arrive(int,int,int,int) int berth() int leave() int reach(int,int)"
        + " int connect(int,int) int disconnect(int) int flush(int) int mend(int) int boom(boolean) int draw(int,int) int pass(int)"
        + " int run() int tanker(int,int) int hose(int,int) int grade(int,int) int count(int) int tide(int) int untilFloats()"
        + " int safeFor(int) int untilEmpty() int ifPassed(int,int) int leastReach(int) int put(long) int wipe() int fault()"
        + " int undo() int save(int) int restore(int)";
    private static final String CONSTANTS = "NO_SUCH=-100001 BAD_VALUE=-100002 BAD_TEXT=-100003 TOO_MANY=-100004"
        + " NOT_POSSIBLE=-100005 NONE=-100006 DEPTH=0 AMPLITUDE=1 KEEL=2 RATE=3 LAY=4 PRICE=5";

    public static void main(String[] args) throws Exception {
        Class<?> face = JettyHoses.class;
        Check.due("the class is public and final", face.getModifiers() & (Modifier.PUBLIC | Modifier.FINAL), Modifier.PUBLIC | Modifier.FINAL);
        dueSame("methods", methodsOf(face), METHODS.replace(") int ", ")\nint ").split("\n"));
        dueSame("constants", constantsOf(face), CONSTANTS.split(" "));
        Constructor<?>[] made = face.getDeclaredConstructors();
        Check.due("constructors", made.length, 1);
        Check.due("parameters of the constructor", made[0].getParameterCount(), 0);
        Check.due("the constructor is public", made[0].getModifiers(), Modifier.PUBLIC);
        dueNoPrivateTwin(face);
        Check.end("FaceTest");
    }

    private static TreeSet<String> methodsOf(Class<?> face) {
        TreeSet<String> found = new TreeSet<>();
        for (Method method : face.getDeclaredMethods()) {
            if (Modifier.isPrivate(method.getModifiers()) || method.isSynthetic()) {
                continue;
            }
            StringBuilder text = new StringBuilder(method.getReturnType() + " " + method.getName() + "(");
            for (Class<?> parameter : method.getParameterTypes()) {
                text.append(text.charAt(text.length() - 1) == '(' ? "" : ",").append(parameter);
            }
            found.add(text + ")");
        }
        return found;
    }

    private static TreeSet<String> constantsOf(Class<?> face) throws Exception {
        TreeSet<String> found = new TreeSet<>();
        for (Field field : face.getDeclaredFields()) {
            if (!Modifier.isPrivate(field.getModifiers())) {
                Check.due(field.getName() + " is public, static and final", field.getModifiers(), Modifier.PUBLIC | Modifier.STATIC | Modifier.FINAL);
                found.add(field.getName() + "=" + field.getInt(null));
            }
        }
        return found;
    }

    private static void dueSame(String what, TreeSet<String> got, String[] want) {
        TreeSet<String> due = new TreeSet<>(Arrays.asList(want));
        Check.due(what + " are " + got + ", due are " + due, got.equals(due) ? 1 : 0, 1);
    }

    /** LANGUAGE.md, rule 1: no private method bears the name of a public one; here also none of a class inside. */
    private static void dueNoPrivateTwin(Class<?> face) {
        TreeSet<String> publics = new TreeSet<>();
        for (Method method : face.getMethods()) {
            publics.add(method.getName());
        }
        for (Method method : face.getDeclaredMethods()) {
            Check.due("private " + method, Modifier.isPrivate(method.getModifiers()) && publics.contains(method.getName()) ? 1 : 0, 0);
        }
        for (Class<?> inside : face.getDeclaredClasses()) {
            Check.due(inside + " is static", inside.getModifiers() & Modifier.STATIC, Modifier.STATIC);
            for (Method method : inside.getDeclaredMethods()) {
                Check.due(inside + ": " + method, publics.contains(method.getName()) ? 1 : 0, 0);
            }
        }
    }
}
