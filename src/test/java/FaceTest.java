import java.lang.reflect.Constructor;
import java.lang.reflect.Field;
import java.lang.reflect.Method;
import java.lang.reflect.Modifier;
import java.util.TreeSet;

/** The public face, to the letter, and nothing beside it that another class could use. */
public final class FaceTest {
    private static final String IAE = " IllegalArgumentException";
    private static final String ISE = " IllegalStateException";
    private static final String IOOBE = " IndexOutOfBoundsException";
    private static final String UOE = " UnsupportedOperationException";
    private static final String[] FACE = {
        "int feed int int int int int" + IOOBE,
        "int end int" + IAE,
        "int font" + UOE,
        "int hyphens" + UOE,
        "int place",
        "int run int" + IAE + UOE + IOOBE,
        "int clear",
        "int set int int int int int" + IAE + ISE + IOOBE,
        "long told int" + IAE + ISE,
        "long at int int" + IAE + ISE,
        "long line int int" + IAE + ISE,
        "long spot int int" + IAE + ISE + IOOBE,
        "int text int" + IAE + ISE,
        "long judge" + ISE + IAE,
        "int parts" + IAE,
        "long width int" + IAE,
        "long word int" + IOOBE,
        "int count int" + IAE,
    };

    public static void main(String[] args) {
        Class<?> face = LineSetter.class;
        Check.same("the class", Modifier.toString(face.getModifiers()), "public final");
        Check.same("the class has no package", face.getPackageName(), "");
        Check.same("constructors", face.getDeclaredConstructors().length, 1);
        for (Constructor<?> c : face.getDeclaredConstructors()) {
            Check.same("the constructor", c.toString(), "public LineSetter()");
        }
        TreeSet<String> methods = new TreeSet<>();
        for (Method m : face.getDeclaredMethods()) {
            if (!Modifier.isPrivate(m.getModifiers())) {
                Check.same("the modifiers of " + m.getName(), Modifier.toString(m.getModifiers()), "public");
                methods.add(signature(m));
            }
        }
        Check.same("the methods", methods, new TreeSet<>(java.util.List.of(FACE)));
        for (Field f : face.getDeclaredFields()) {
            Check.same("private " + f.getName(), Modifier.isPrivate(f.getModifiers()), true);
        }
        for (Class<?> inside : face.getDeclaredClasses()) {
            Check.same("the class " + inside.getSimpleName(), Modifier.isStatic(inside.getModifiers()), true);
            noStaticState(inside);
        }
        noStaticState(face);
        languageBounds(face);
        Check.done("FaceTest");
    }

    private static String signature(Method m) {
        StringBuilder text = new StringBuilder(m.getReturnType().getName()).append(" ").append(m.getName());
        for (Class<?> c : m.getParameterTypes()) {
            text.append(" ").append(c.getName());
        }
        for (Class<?> c : m.getExceptionTypes()) {
            text.append(" ").append(c.getSimpleName());
        }
        return text.toString();
    }

    /** The bounds of LANGUAGE.md's rules 1 and 11 that can be seen from outside. */
    private static void languageBounds(Class<?> face) {
        TreeSet<String> open = new TreeSet<>();
        for (Method m : face.getMethods()) {
            if (m.getDeclaringClass() == face) {
                open.add(m.getName());
            }
        }
        Check.same("at most twelve classes", face.getDeclaredClasses().length + 1 <= 12, true);
        boundsOf(face, open);
        for (Class<?> inside : face.getDeclaredClasses()) {
            boundsOf(inside, open);
        }
    }

    private static void boundsOf(Class<?> c, TreeSet<String> open) {
        int fields = 0;
        for (Field f : c.getDeclaredFields()) {
            fields += Modifier.isStatic(f.getModifiers()) ? 0 : 1;
        }
        Check.same("at most twenty fields in " + c.getSimpleName(), fields <= 20, true);
        for (Method m : c.getDeclaredMethods()) {
            Check.same("at most seven parameters of " + m.getName(), m.getParameterCount() <= 7, true);
            boolean hidden = Modifier.isPrivate(m.getModifiers());
            Check.same("no private method is named " + m.getName(), hidden && open.contains(m.getName()), false);
        }
    }

    private static void noStaticState(Class<?> c) {
        for (Field f : c.getDeclaredFields()) {
            if (Modifier.isStatic(f.getModifiers())) {
                Check.same("final " + f.getName(), Modifier.isFinal(f.getModifiers()), true);
            }
        }
    }
}
