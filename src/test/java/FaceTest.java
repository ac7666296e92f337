import java.lang.reflect.Constructor;
import java.lang.reflect.Field;
import java.lang.reflect.Method;
import java.lang.reflect.Modifier;
import java.util.Arrays;
import java.util.Set;
import java.util.TreeSet;

/** The public face: what stands in the document, and nothing beside it. */
public final class FaceTest {
    public static void main(String[] args) {
        Set<String> seen = new TreeSet<>();
        for (Field field : HeadDesk.class.getDeclaredFields()) {
            if (!hidden(field.getModifiers(), field.isSynthetic())) {
                seen.add(field.toString());
            }
        }
        for (Method method : HeadDesk.class.getDeclaredMethods()) {
            if (!hidden(method.getModifiers(), method.isSynthetic())) {
                seen.add(method.toString());
            }
        }
        for (Constructor<?> constructor : HeadDesk.class.getDeclaredConstructors()) {
            if (!hidden(constructor.getModifiers(), constructor.isSynthetic())) {
                seen.add(constructor.toString());
            }
        }
        Set<String> due = new TreeSet<>(Arrays.asList(
            "public static final int HeadDesk.NONE",
            "public HeadDesk()",
            "public boolean HeadDesk.type(long,int)",
            "public int HeadDesk.read(int) throws java.lang.IllegalArgumentException",
            "public int HeadDesk.fault()",
            "public int HeadDesk.told(int)",
            "public boolean HeadDesk.matches(int)",
            "public int HeadDesk.bytes(int,int)"));
        if (!seen.equals(due)) {
            System.out.println("the face is " + seen);
        }
        Check.due("the face is the document's", seen.equals(due), true);
        int modifiers = HeadDesk.class.getModifiers();
        Check.due("the class is public", Modifier.isPublic(modifiers), true);
        Check.due("the class is final", Modifier.isFinal(modifiers), true);
        Check.due("NONE", HeadDesk.NONE, -1);
        Check.end();
    }

    private static boolean hidden(int modifiers, boolean synthetic) {
        return Modifier.isPrivate(modifiers) || synthetic;
    }
}
