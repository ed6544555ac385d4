import java.lang.reflect.Constructor;
import java.lang.reflect.Field;
import java.lang.reflect.Method;
import java.lang.reflect.Modifier;
import java.util.TreeSet;

/** The public face: what the document names, and nothing else that can be seen from outside. */
public final class FaceTest {
    private static final String[] METHODS = {
        "set(int,int)", "add(int,int,int)", "read()", "drop(int)", "stride(int,int)", "run(int)", "reset()",
        "bankOf(int)", "stream(int,int)", "bank(int,int)", "count(int)",
        "untilDone()", "alone(int,int)", "bestStride(int,int,int)", "bestMap(int)", "clashes(int,int)",
        "put(long)", "wipe()", "fault()", "undo()", "save(int)", "restore(int)"};
    private static final String[] CONSTANTS = {
        "NO_SUCH=-1", "BAD_VALUE=-2", "BAD_TEXT=-3", "TOO_MANY=-4", "NOT_POSSIBLE=-5", "NONE=-6",
        "BANKS=0", "BUSY=1", "MAP=2", "TURNS=3"};

    public static void main(String[] args) throws Exception {
        same("methods", METHODS, methodsSeen());
        same("constants", CONSTANTS, constantsSeen());
        Due.is("public and final", StrideBanks.class.getModifiers(), Modifier.PUBLIC | Modifier.FINAL);
        Constructor<?>[] constructors = StrideBanks.class.getDeclaredConstructors();
        Due.is("constructors", constructors.length, 1);
        Due.is("parameters of the constructor", constructors[0].getParameterCount(), 0);
        Due.is("the constructor is public", constructors[0].getModifiers(), Modifier.PUBLIC);
        noPrivateNameTwice();
        Due.end();
    }

    private static TreeSet<String> methodsSeen() {
        TreeSet<String> seen = new TreeSet<>();
        for (Method method : StrideBanks.class.getDeclaredMethods()) {
            if (Modifier.isPrivate(method.getModifiers())) {
                continue;
            }
            boolean fits = method.getModifiers() == Modifier.PUBLIC && method.getReturnType() == int.class;
            seen.add((fits ? "" : "otherwise ") + method.getName() + parameters(method));
        }
        return seen;
    }

    private static String parameters(Method method) {
        StringBuilder text = new StringBuilder("(");
        for (Class<?> type : method.getParameterTypes()) {
            text.append(text.length() > 1 ? "," : "").append(type.getName());
        }
        return text.append(")").toString();
    }

    private static TreeSet<String> constantsSeen() throws Exception {
        TreeSet<String> seen = new TreeSet<>();
        for (Field field : StrideBanks.class.getDeclaredFields()) {
            if (!Modifier.isPrivate(field.getModifiers())) {
                boolean fits = field.getModifiers() == (Modifier.PUBLIC | Modifier.STATIC | Modifier.FINAL);
                seen.add((fits ? "" : "otherwise ") + field.getName() + "=" + field.getInt(null));
            }
        }
        return seen;
    }

    private static void noPrivateNameTwice() {
        TreeSet<String> open = new TreeSet<>();
        for (String method : METHODS) {
            open.add(method.substring(0, method.indexOf('(')));
        }
        for (Method method : StrideBanks.class.getDeclaredMethods()) {
            boolean hidden = Modifier.isPrivate(method.getModifiers());
            Due.is("private " + method.getName(), hidden && open.contains(method.getName()) ? 1 : 0, 0);
        }
    }

    private static void same(String what, String[] wanted, TreeSet<String> seen) {
        TreeSet<String> due = new TreeSet<>();
        for (String one : wanted) {
            due.add(one);
        }
        if (!due.equals(seen)) {
            System.out.println(what + ": seen " + seen + ", due " + due);
        }
        Due.is(what, due.equals(seen) ? 1 : 0, 1);
    }
}
