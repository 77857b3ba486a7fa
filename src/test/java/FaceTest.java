import java.lang.reflect.Constructor;
import java.lang.reflect.Field;
import java.lang.reflect.Method;
import java.lang.reflect.Modifier;
import java.util.Arrays;
import java.util.Set;
import java.util.TreeSet;

/** The face of the document, and no member beside it that is not private. */
public final class FaceTest {
    private static final String[] FACE = {
        "CoverHouse()",
        "int candidate(int, int) IndexOutOfBoundsException IllegalArgumentException",
        "int candidates()",
        "int chosen(int) IndexOutOfBoundsException",
        "int least()",
        "int parts()",
        "int thinned(int)",
        "boolean value(int, int) IndexOutOfBoundsException IllegalArgumentException",
        "void begin(int, int) IllegalArgumentException",
        "void set(int, int, int) IndexOutOfBoundsException IllegalArgumentException",
        "int NONE",
    };

    public static void main(String[] args) {
        Class<CoverHouse> type = CoverHouse.class;
        Check.due("class is public and final", type.getModifiers(), Modifier.PUBLIC | Modifier.FINAL);
        Check.sentence("Terms, end", "The constants: `NONE = -1`: There is none.");
        Check.due("NONE", CoverHouse.NONE, -1);
        Check.sentence("The public face", "public final class CoverHouse");
        Set<String> due = new TreeSet<>(Arrays.asList(FACE));
        Set<String> face = visibleMembers(type);
        if (!face.equals(due)) {
            System.out.println("face is " + face + ", due is " + due);
        }
        Check.due("face is the document's", face.equals(due), true);
        noSharedState(type);
        for (Class<?> inside : type.getDeclaredClasses()) {
            Check.due(inside.getName() + " is static", Modifier.isStatic(inside.getModifiers()), true);
            Check.due(inside.getName() + " is not public", Modifier.isPublic(inside.getModifiers()), false);
            noSharedState(inside);
        }
        Check.finish("FaceTest");
    }

    private static Set<String> visibleMembers(Class<?> type) {
        Set<String> face = new TreeSet<>();
        for (Constructor<?> c : type.getDeclaredConstructors()) {
            if (!Modifier.isPrivate(c.getModifiers())) {
                face.add(type.getSimpleName() + listed(c.getParameterTypes()) + thrown(c.getExceptionTypes()));
            }
        }
        for (Method m : type.getDeclaredMethods()) {
            if (!Modifier.isPrivate(m.getModifiers())) {
                face.add(m.getReturnType() + " " + m.getName() + listed(m.getParameterTypes())
                        + thrown(m.getExceptionTypes()));
            }
        }
        for (Field f : type.getDeclaredFields()) {
            if (!Modifier.isPrivate(f.getModifiers())) {
                face.add(f.getType() + " " + f.getName());
            }
        }
        return face;
    }

    private static String listed(Class<?>[] types) {
        StringBuilder text = new StringBuilder("(");
        for (Class<?> type : types) {
            text.append(text.length() == 1 ? "" : ", ").append(type.getSimpleName());
        }
        return text.append(")").toString();
    }

    private static String thrown(Class<?>[] types) {
        StringBuilder text = new StringBuilder();
        for (Class<?> type : types) {
            text.append(" ").append(type.getSimpleName());
        }
        return text.toString();
    }

    private static void noSharedState(Class<?> type) {
        for (Field f : type.getDeclaredFields()) {
            boolean shared = Modifier.isStatic(f.getModifiers()) && !Modifier.isFinal(f.getModifiers());
            Check.due(type.getName() + "." + f.getName() + " is shared state", shared, false);
        }
    }
}
