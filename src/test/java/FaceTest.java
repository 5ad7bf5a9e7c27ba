import java.lang.reflect.Constructor;
import java.lang.reflect.Field;
import java.lang.reflect.Method;
import java.lang.reflect.Modifier;
import java.util.Arrays;
import java.util.TreeSet;
import java.util.stream.Collectors;

/** The class has the members of the document's face, and no others but private ones. */
public final class FaceTest {
    private static final String[] FACE = {
        "public WideningArray()",
        "public static final int NONE",
        "public int format(int) throws IllegalArgumentException",
        "public boolean write(int, int, int) throws IllegalStateException,"
            + " IndexOutOfBoundsException, UnsupportedOperationException",
        "public int read(int, int) throws IllegalStateException, IndexOutOfBoundsException",
        "public int widen() throws IllegalStateException, IllegalArgumentException,"
            + " UnsupportedOperationException",
        "public int step() throws IllegalStateException, IllegalArgumentException,"
            + " UnsupportedOperationException",
        "public void lose(int) throws IllegalStateException, IndexOutOfBoundsException,"
            + " IllegalArgumentException",
        "public int replace() throws IllegalStateException, IllegalArgumentException",
        "public int rebuild() throws IllegalStateException, IllegalArgumentException",
        "public void crash(int, int) throws IllegalStateException, IllegalArgumentException",
        "public int start() throws IllegalStateException",
        "public boolean good(int) throws IllegalStateException, IndexOutOfBoundsException,"
            + " IllegalArgumentException",
        "public int layout(int) throws IllegalStateException, IndexOutOfBoundsException",
        "public int cell(int, int, int) throws IllegalStateException, IndexOutOfBoundsException",
        "public int marks(int, int) throws IllegalStateException, IndexOutOfBoundsException",
        "public int count(int)",
    };

    public static void main(String[] args) {
        Check check = new Check("FaceTest");
        Class<?> face = WideningArray.class;
        TreeSet<String> seen = new TreeSet<>();
        for (Constructor<?> c : face.getDeclaredConstructors()) {
            keep(seen, c.getModifiers(), "WideningArray" + list(c.getParameterTypes()));
        }
        for (Field f : face.getDeclaredFields()) {
            keep(seen, f.getModifiers(), f.getType().getSimpleName() + " " + f.getName());
        }
        TreeSet<String> publicNames = new TreeSet<>();
        for (Method m : face.getDeclaredMethods()) {
            String thrown = Arrays.stream(m.getExceptionTypes()).map(Class::getSimpleName)
                    .collect(Collectors.joining(", "));
            keep(seen, m.getModifiers(), m.getReturnType().getSimpleName() + " " + m.getName()
                    + list(m.getParameterTypes()) + (thrown.isEmpty() ? "" : " throws " + thrown));
            if (Modifier.isPublic(m.getModifiers())) {
                publicNames.add(m.getName());
            }
        }
        check.same("the face", new TreeSet<>(Arrays.asList(FACE)).toString(), seen.toString());
        check.same("the class", "public final", Modifier.toString(face.getModifiers()));
        for (Method m : face.getDeclaredMethods()) {
            check.same("a private method named as " + m.getName(), "false",
                    "" + (Modifier.isPrivate(m.getModifiers()) && publicNames.contains(m.getName())));
        }
        for (Class<?> inside : face.getDeclaredClasses()) {
            check.same(inside.getSimpleName() + " is static", "true",
                    "" + Modifier.isStatic(inside.getModifiers()));
        }
        check.end();
    }

    private static void keep(TreeSet<String> seen, int modifiers, String text) {
        if (!Modifier.isPrivate(modifiers)) {
            seen.add(Modifier.toString(modifiers) + " " + text);
        }
    }

    private static String list(Class<?>[] types) {
        return Arrays.stream(types).map(Class::getSimpleName)
                .collect(Collectors.joining(", ", "(", ")"));
    }
}
