import java.lang.reflect.Constructor;
import java.lang.reflect.Field;
import java.lang.reflect.Method;
import java.lang.reflect.Modifier;
import java.util.Arrays;
import java.util.TreeSet;

/** The public face: the document's members, and no other that is not private. */
public final class FaceTest {
    private static final Checks checks = new Checks();

    public static void main(String[] args) {
        TreeSet<String> face = new TreeSet<>();
        for (Constructor<?> made : DoubleText.class.getDeclaredConstructors()) {
            note(face, made.getModifiers(), made.toString());
        }
        for (Method method : DoubleText.class.getDeclaredMethods()) {
            note(face, method.getModifiers(), method.toString());
        }
        for (Field field : DoubleText.class.getDeclaredFields()) {
            note(face, field.getModifiers(), field.toString());
        }
        TreeSet<String> want = new TreeSet<>(Arrays.asList(
            "public DoubleText()",
            "public void DoubleText.clear()",
            "public int DoubleText.add(int) throws java.lang.IllegalArgumentException,java.lang.IllegalStateException",
            "public long DoubleText.read() throws java.lang.IllegalStateException",
            "public int DoubleText.print(long,int) throws "
                + "java.lang.IllegalArgumentException,java.lang.IllegalStateException",
            "public int DoubleText.shortest(long) throws java.lang.IllegalStateException",
            "public int DoubleText.letter(int) throws java.util.NoSuchElementException"));
        checks.same("the face", want.toString(), face.toString());
        checks.same("the class", "public final", Modifier.toString(DoubleText.class.getModifiers()));
        checks.finish();
    }

    private static void note(TreeSet<String> face, int modifiers, String member) {
        if (!Modifier.isPrivate(modifiers)) {
            face.add(member);
        }
    }
}
