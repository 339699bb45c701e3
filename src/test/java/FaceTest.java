import java.lang.reflect.Constructor;
import java.lang.reflect.Field;
import java.lang.reflect.Member;
import java.lang.reflect.Method;
import java.lang.reflect.Modifier;
import java.util.Set;
import java.util.TreeSet;

/** The public face: what the document lists, and nothing beside it. */
public final class FaceTest {
    private static final String BOUNDS = " IndexOutOfBoundsException";
    private static final String ARGUMENT = " IllegalArgumentException";
    private static final String STATE = " IllegalStateException";
    private static final String UNSUPPORTED = " UnsupportedOperationException";
    private static final String[] METHODS = {
        "void genes(int)" + ARGUMENT,
        "int write(long)",
        "int wipe()",
        "int read(int)" + BOUNDS,
        "int gene(int,int)" + BOUNDS,
        "void copy(int,int)" + BOUNDS,
        "void reverse(int,int,int)" + BOUNDS,
        "boolean undo(int)" + BOUNDS,
        "int distance(int,int)" + BOUNDS,
        "int drawing(int,int,int)" + BOUNDS + ARGUMENT,
        "int line(int,int,int)" + BOUNDS + ARGUMENT,
        "int interval(int,int,int)" + BOUNDS,
        "int scenario(int,int)" + BOUNDS,
        "int step(int)" + STATE + ARGUMENT,
        "long ways(int,int)" + BOUNDS + UNSUPPORTED,
        "int circle(int,int)" + BOUNDS + UNSUPPORTED,
        "int median(int,int,int)" + BOUNDS + UNSUPPORTED,
    };

    public static void main(String[] args) {
        Check check = new Check("FaceTest");
        check.same("NONE", ReversalDesk.NONE, -1);
        int modifiers = ReversalDesk.class.getModifiers();
        check.same("public and final", Modifier.isPublic(modifiers) && Modifier.isFinal(modifiers) ? 1 : 0, 1);
        check.same("methods", seenMethods().toString(), new TreeSet<>(Set.of(METHODS)).toString());
        check.same("constants", seenFields().toString(), "[public static final int NONE]");
        check.same("constructors", seenConstructors().toString(), "[ReversalDesk()]");
        check.end();
    }

    private static boolean isSeen(Member member) {
        return !Modifier.isPrivate(member.getModifiers()) && !member.isSynthetic();
    }

    private static Set<String> seenMethods() {
        Set<String> seen = new TreeSet<>();
        for (Method method : ReversalDesk.class.getDeclaredMethods()) {
            if (isSeen(method)) {
                StringBuilder types = new StringBuilder();
                for (Class<?> type : method.getParameterTypes()) {
                    types.append(types.length() == 0 ? "" : ",").append(type);
                }
                StringBuilder thrown = new StringBuilder();
                for (Class<?> type : method.getExceptionTypes()) {
                    thrown.append(' ').append(type.getSimpleName());
                }
                seen.add(method.getReturnType() + " " + method.getName() + "(" + types + ")" + thrown);
            }
        }
        return seen;
    }

    private static Set<String> seenFields() {
        Set<String> seen = new TreeSet<>();
        for (Field field : ReversalDesk.class.getDeclaredFields()) {
            if (isSeen(field)) {
                seen.add(Modifier.toString(field.getModifiers()) + " " + field.getType() + " " + field.getName());
            }
        }
        return seen;
    }

    private static Set<String> seenConstructors() {
        Set<String> seen = new TreeSet<>();
        for (Constructor<?> constructor : ReversalDesk.class.getDeclaredConstructors()) {
            if (isSeen(constructor)) {
                seen.add(constructor.getName() + (constructor.getParameterCount() == 0 ? "()" : "(..)"));
            }
        }
        return seen;
    }
}
