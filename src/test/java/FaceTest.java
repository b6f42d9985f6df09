import java.lang.reflect.Constructor;
import java.lang.reflect.Field;
import java.lang.reflect.Method;
import java.lang.reflect.Modifier;
import java.util.ArrayList;
import java.util.Arrays;
import java.util.Collections;
import java.util.List;

/** The public face: exactly the members of the document, and the rest private. */
public final class FaceTest {
    private static final String[] FACE = {
        "constructor()",
        "int box(int)", "int tape(int)", "int reserve(int, long)", "int put(int, int, long)",
        "int close(int, long)", "int type(int, long)", "int code(int)", "int door(int, int, long)",
        "int tick(long)", "int take(int, int)", "int item(int)", "int freed(int)",
        "int UNKNOWN = -11", "int OUTSIDE = -12", "int STATE = -13", "int ROOM = -14",
        "int SHUT = 0", "int OPEN = 1", "int FORCED = 2", "int OUT = 3",
    };

    private static String parameters(Class<?>[] types) {
        List<String> names = new ArrayList<>();
        for (Class<?> type : types) {
            names.add(type.getName());
        }
        return "(" + String.join(", ", names) + ")";
    }

    private static boolean isHidden(int modifiers, boolean synthetic) {
        return synthetic || Modifier.isPrivate(modifiers);
    }

    private static List<String> visibleMembers() throws IllegalAccessException {
        List<String> found = new ArrayList<>();
        for (Constructor<?> c : LockerRows.class.getDeclaredConstructors()) {
            if (!isHidden(c.getModifiers(), c.isSynthetic())) {
                found.add("constructor" + parameters(c.getParameterTypes()));
            }
        }
        for (Method m : LockerRows.class.getDeclaredMethods()) {
            if (!isHidden(m.getModifiers(), m.isSynthetic())) {
                found.add(m.getReturnType() + " " + m.getName() + parameters(m.getParameterTypes()));
            }
        }
        for (Field f : LockerRows.class.getDeclaredFields()) {
            if (!isHidden(f.getModifiers(), f.isSynthetic())) {
                found.add(f.getType() + " " + f.getName() + " = " + f.get(null));
            }
        }
        Collections.sort(found);
        return found;
    }

    public static void main(String[] args) throws IllegalAccessException {
        List<String> wanted = new ArrayList<>(Arrays.asList(FACE));
        Collections.sort(wanted);
        List<String> found = visibleMembers();
        if (!found.equals(wanted)) {
            System.out.println("FaceTest: the face is " + found + ", due is " + wanted);
            System.exit(1);
        }
        if (!Modifier.isFinal(LockerRows.class.getModifiers())) {
            System.out.println("FaceTest: the class is not final");
            System.exit(1);
        }
    }
}
