import java.lang.reflect.Constructor;
import java.lang.reflect.Executable;
import java.lang.reflect.Field;
import java.lang.reflect.Method;
import java.lang.reflect.Modifier;
import java.util.Arrays;
import java.util.Set;
import java.util.TreeSet;

/** The face is the document's, whole, and nothing else can be seen. */
public final class FaceTest {
    private static final String[] FACE = {
        "SpotContours() throws []",
        "int spot(int, int, int) throws [IllegalArgumentException, IllegalStateException]",
        "int raise(int, int) throws [IllegalArgumentException, IndexOutOfBoundsException]",
        "int triangles() throws []",
        "int corner(int, int) throws [IndexOutOfBoundsException]",
        "int edge(int, int) throws [IndexOutOfBoundsException]",
        "int at(int, int) throws [NoSuchElementException]",
        "int contours(int) throws [IllegalArgumentException]",
        "int contour(int, int) throws [IllegalArgumentException, IndexOutOfBoundsException]",
        "int crossing(int, int, int) throws [IllegalArgumentException, IndexOutOfBoundsException]",
        "int place(int, int, int) throws [IllegalArgumentException, IndexOutOfBoundsException]",
        "int label(int) throws [IllegalArgumentException, IllegalStateException]",
        "int labels() throws []",
        "int labelOf(int, int) throws [IllegalArgumentException, IndexOutOfBoundsException]",
        "int wipe() throws []",
    };

    public static void main(String[] args) {
        Check check = new Check();
        Class<?> face = SpotContours.class;
        check.holds("public and final", Modifier.isPublic(face.getModifiers()) && Modifier.isFinal(face.getModifiers()));
        check.same(new TreeSet<>(Arrays.asList(FACE)).toString(), "the face", seen(face).toString());
        for (Field field : face.getDeclaredFields()) {
            check.holds(field + " is private", Modifier.isPrivate(field.getModifiers()));
        }
        for (Class<?> inside : face.getDeclaredClasses()) {
            int modifiers = inside.getModifiers();
            check.holds(inside + " is static and not public",
                    Modifier.isStatic(modifiers) && !Modifier.isPublic(modifiers) && !Modifier.isProtected(modifiers));
            noNameOfTheFace(check, face, inside);
        }
        noNameOfTheFace(check, face, face);
        check.finish();
    }

    private static Set<String> seen(Class<?> face) {
        Set<String> seen = new TreeSet<>();
        for (Constructor<?> constructor : face.getDeclaredConstructors()) {
            seen.add(text("", face.getSimpleName(), constructor));
        }
        for (Method method : face.getDeclaredMethods()) {
            if (!Modifier.isPrivate(method.getModifiers())) {
                seen.add(text(method.getReturnType() + " ", method.getName(), method));
            }
        }
        return seen;
    }

    private static String text(String before, String name, Executable member) {
        String takes = Arrays.toString(member.getParameterTypes()).replace('[', '(').replace(']', ')');
        Set<String> thrown = new TreeSet<>();
        for (Class<?> e : member.getExceptionTypes()) {
            thrown.add(e.getSimpleName());
        }
        return before + name + takes + " throws " + thrown;
    }

    private static void noNameOfTheFace(Check check, Class<?> face, Class<?> holder) {
        Set<String> names = new TreeSet<>();
        for (Method method : face.getMethods()) {
            names.add(method.getName());
        }
        for (Method method : holder.getDeclaredMethods()) {
            if (Modifier.isPrivate(method.getModifiers())) {
                check.holds(method + " has a name of its own", !names.contains(method.getName()));
            }
        }
    }
}
