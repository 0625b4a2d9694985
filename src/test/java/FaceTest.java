import java.lang.reflect.Constructor;
import java.lang.reflect.Field;
import java.lang.reflect.Method;
import java.lang.reflect.Modifier;
import java.util.Set;
import java.util.TreeSet;

/** The public face, and rule 1 of LANGUAGE.md. */
public final class FaceTest {
    public static void main(String[] args) {
        Check check = new Check("FaceTest");
        check.same("NONE", TwinMill.NONE, -1);
        check.same("class is public and final",
            TwinMill.class.getModifiers() & (Modifier.PUBLIC | Modifier.FINAL), Modifier.PUBLIC | Modifier.FINAL);
        members(check);
        nested(check);
        check.end();
    }

    private static void members(Check check) {
        Set<String> due = new TreeSet<>(Set.of("boolean image(int,int)", "int translate(int)", "int first(int)",
            "int second(int)", "int boundary()", "boolean alike()", "int code(int,int)", "int mapped(int)",
            "int look(int,int)", "int byteAt(int,int)"));
        Set<String> got = new TreeSet<>();
        for (Method m : TwinMill.class.getDeclaredMethods()) {
            if (!Modifier.isPrivate(m.getModifiers()) && !m.isSynthetic()) {
                check.same(m + " is public", Modifier.isPublic(m.getModifiers()), true);
                got.add(m.getReturnType() + " " + m.getName() + parameters(m));
            }
        }
        check.same("methods " + got, got.equals(due), true);
        for (Field f : TwinMill.class.getDeclaredFields()) {
            boolean none = f.getName().equals("NONE");
            check.same(f + " is private, or NONE", Modifier.isPrivate(f.getModifiers()), !none);
        }
        Constructor<?>[] constructors = TwinMill.class.getDeclaredConstructors();
        check.same("constructors", constructors.length, 1);
        check.same("the constructor is public", Modifier.isPublic(constructors[0].getModifiers()), true);
    }

    private static String parameters(Method m) {
        StringBuilder text = new StringBuilder("(");
        for (Class<?> type : m.getParameterTypes()) {
            text.append(text.length() == 1 ? "" : ",").append(type);
        }
        return text.append(")").toString();
    }

    private static void nested(Check check) {
        for (Class<?> c : TwinMill.class.getDeclaredClasses()) {
            int m = c.getModifiers();
            check.same(c + " is static", Modifier.isStatic(m), true);
            check.same(c + " is not public or protected", Modifier.isPublic(m) || Modifier.isProtected(m), false);
        }
        check.same("at most twelve classes", TwinMill.class.getDeclaredClasses().length <= 12, true);
    }
}
