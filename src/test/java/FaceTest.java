import java.lang.reflect.Constructor;
import java.lang.reflect.Field;
import java.lang.reflect.Method;
import java.lang.reflect.Modifier;
import java.util.Set;
import java.util.TreeSet;

/** "The public face", word by word, and what of LANGUAGE.md can be seen from outside (rules 1, 2, 5 and 11). */
public final class FaceTest {
    private static final String ARGUMENT = " throws IllegalArgumentException";
    private static final String STATE = " throws IllegalStateException";
    private static final String BOTH = " throws IllegalArgumentException, IllegalStateException";

    private static final Set<String> METHODS = Set.of(
        "public boolean image(int, int)" + ARGUMENT,
        "public int translate(int)" + ARGUMENT,
        "public int first(int)" + BOTH,
        "public int second(int)" + BOTH,
        "public int boundary()" + STATE,
        "public boolean alike()",
        "public int code(int, int)",
        "public int mapped(int)",
        "public int look(int, int)",
        "public int byteAt(int, int)");

    public static void main(String[] args) {
        Check check = new Check("FaceTest");
        theClass(check);
        methods(check);
        fields(check);
        constructors(check);
        nested(check);
        for (Class<?> c : TwinMill.class.getDeclaredClasses()) {
            language(check, c);
        }
        language(check, TwinMill.class);
        check.end();
    }

    private static void theClass(Check check) {
        check.same("public final class", TwinMill.class.getModifiers(), Modifier.PUBLIC | Modifier.FINAL);
        check.same("extends nothing", TwinMill.class.getSuperclass() == Object.class, true);
        check.same("implements nothing", TwinMill.class.getInterfaces().length, 0);
        check.same("no package", TwinMill.class.getPackageName().isEmpty(), true);
    }

    private static void methods(Check check) {
        Set<String> got = new TreeSet<>();
        Set<String> names = new TreeSet<>();
        for (Method m : TwinMill.class.getDeclaredMethods()) {
            if (!Modifier.isPrivate(m.getModifiers()) && !m.isSynthetic()) {
                got.add(written(m));
                names.add(m.getName());
            }
        }
        check.same("methods " + got, got.equals(METHODS), true);
        for (Method m : TwinMill.class.getDeclaredMethods()) {
            boolean hidden = Modifier.isPrivate(m.getModifiers());
            check.same(m + " bears a public one's name", hidden && names.contains(m.getName()), false);
        }
    }

    /** A method as the document writes it, without the names of its parameters. */
    private static String written(Method m) {
        return Modifier.toString(m.getModifiers()) + " " + m.getReturnType() + " " + m.getName()
            + "(" + joined(m.getParameterTypes()) + ")"
            + (m.getExceptionTypes().length == 0 ? "" : " throws " + joined(m.getExceptionTypes()));
    }

    private static String joined(Class<?>[] types) {
        StringBuilder text = new StringBuilder();
        for (Class<?> type : types) {
            text.append(text.length() == 0 ? "" : ", ").append(type.getSimpleName());
        }
        return text.toString();
    }

    private static void fields(Check check) {
        check.same("NONE", TwinMill.NONE, -1);
        int seen = 0;
        for (Field f : TwinMill.class.getDeclaredFields()) {
            if (!Modifier.isPrivate(f.getModifiers())) {
                seen++;
                String text = Modifier.toString(f.getModifiers()) + " " + f.getType() + " " + f.getName();
                check.same(text, text.equals("public static final int NONE"), true);
            }
        }
        check.same("constants", seen, 1);
    }

    private static void constructors(Check check) {
        Constructor<?>[] all = TwinMill.class.getDeclaredConstructors();
        check.same("constructors", all.length, 1);
        check.same("the constructor is public", all[0].getModifiers(), Modifier.PUBLIC);
        check.same("it takes nothing", all[0].getParameterCount(), 0);
        check.same("it throws nothing", all[0].getExceptionTypes().length, 0);
    }

    private static void nested(Check check) {
        for (Class<?> c : TwinMill.class.getDeclaredClasses()) {
            int m = c.getModifiers();
            check.same(c + " is static", Modifier.isStatic(m), true);
            check.same(c + " is not public or protected", Modifier.isPublic(m) || Modifier.isProtected(m), false);
        }
        check.same("at most twelve classes", TwinMill.class.getDeclaredClasses().length <= 12, true);
    }

    private static void language(Check check, Class<?> c) {
        int held = 0;
        for (Field f : c.getDeclaredFields()) {
            boolean constant = Modifier.isStatic(f.getModifiers());
            held += constant ? 0 : 1;
            check.same(f + " is final, if static", !constant || Modifier.isFinal(f.getModifiers()), true);
        }
        check.same(c + " has at most twenty fields", held <= 20, true);
        for (Method m : c.getDeclaredMethods()) {
            check.same(m + " takes at most seven", m.getParameterCount() <= 7, true);
            check.same(m + " is no lambda", m.getName().startsWith("lambda"), false);
        }
    }
}
