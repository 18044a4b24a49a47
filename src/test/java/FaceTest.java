import java.lang.reflect.Constructor;
import java.lang.reflect.Field;
import java.lang.reflect.Method;
import java.lang.reflect.Modifier;
import java.util.Arrays;
import java.util.Set;
import java.util.TreeSet;

/** The public face as the document has it, and rule 1 of LANGUAGE.md. */
public final class FaceTest {
    private static final String[] METHODS = {
        "int type(int, int)", "int wipe(int)", "int fault(int)", "int person(int, int)",
        "int sits(int, int)", "int home(int, int)", "int worth(int, int)", "int read(int)",
        "int set(int, int)", "int state(int, int, int)", "int all(int, int)",
        "int payer(int, int)", "int beggars()", "int best(int, int, int)", "int rest(int)",
        "int down(int, int)", "int alike()", "int dark(int, int, int)",
        "int seen(int, int, int)", "int forget()", "int unlike()", "int hid(int)",
        "long luck(int, int, int, int)", "int sheet(int, int, int)", "int lose(int)",
        "int put(int, int, int, int)", "int get(int, int, int)",
        "int copy(int, int, int, int, int)", "int write(int, int)", "int count(int)",
        "long digest()",
    };

    public static void main(String[] args) {
        Due.is("NONE", RichestPays.NONE, -1);
        Due.is("BAD", RichestPays.BAD, -2);
        Due.is("NOT", RichestPays.NOT, -3);
        Due.is("FULL", RichestPays.FULL, -4);
        methods();
        fields();
        Constructor<?>[] made = RichestPays.class.getDeclaredConstructors();
        Due.is("constructors", made.length, 1);
        Due.isTrue("a public one without arguments",
                Modifier.isPublic(made[0].getModifiers()) && made[0].getParameterCount() == 0);
        int kind = RichestPays.class.getModifiers();
        Due.isTrue("public and final", Modifier.isPublic(kind) && Modifier.isFinal(kind));
        for (Class<?> inside : RichestPays.class.getDeclaredClasses()) {
            Due.isTrue(inside + " is static", Modifier.isStatic(inside.getModifiers()));
            Due.isTrue(inside + " is private", Modifier.isPrivate(inside.getModifiers()));
            Due.isTrue(inside + " has some twenty fields at most",
                    inside.getDeclaredFields().length <= 25);
        }
        Due.end("FaceTest");
    }

    private static String told(Method m) {
        StringBuilder types = new StringBuilder();
        for (Class<?> type : m.getParameterTypes()) {
            types.append(types.length() == 0 ? "" : ", ").append(type);
        }
        return m.getReturnType() + " " + m.getName() + "(" + types + ")";
    }

    private static void methods() {
        Set<String> due = new TreeSet<>(Arrays.asList(METHODS));
        Set<String> names = new TreeSet<>();
        for (String method : METHODS) {
            names.add(method.substring(method.indexOf(' ') + 1, method.indexOf('(')));
        }
        Set<String> there = new TreeSet<>();
        for (Method m : RichestPays.class.getDeclaredMethods()) {
            if (Modifier.isPublic(m.getModifiers())) {
                there.add(told(m));
            } else if (!m.isSynthetic()) {
                Due.isTrue(m + " is private", Modifier.isPrivate(m.getModifiers()));
                Due.isTrue(m + " has a name of its own", !names.contains(m.getName()));
            }
        }
        Due.isTrue("public methods: " + there, there.equals(due));
    }

    private static void fields() {
        for (Field f : RichestPays.class.getDeclaredFields()) {
            boolean isConstant = Set.of("NONE", "BAD", "NOT", "FULL").contains(f.getName());
            int kind = f.getModifiers();
            Due.isTrue(f + " is as told", isConstant ? Modifier.isPublic(kind)
                    : Modifier.isPrivate(kind) || f.isSynthetic());
            Due.isTrue(f + " is final or an object's own",
                    Modifier.isFinal(kind) || !Modifier.isStatic(kind));
        }
    }
}
