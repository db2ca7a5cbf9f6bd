import java.lang.reflect.Constructor;
import java.lang.reflect.Field;
import java.lang.reflect.Method;
import java.lang.reflect.Modifier;
import java.util.Arrays;
import java.util.Collections;
import java.util.Set;
import java.util.TreeSet;

/** The public face, as the document has it, and rules 1 and 5 of the language. */
public final class FaceTest {
    private static final String[] FACE = {
        "int setRoom(int, int) IllegalArgumentException",
        "int setVan(int) IllegalArgumentException",
        "int leave(int, int, int) IllegalArgumentException IllegalStateException",
        "int fetch(int) IndexOutOfBoundsException IllegalStateException",
        "int want(int, int) IndexOutOfBoundsException IllegalArgumentException IllegalStateException",
        "int value(int, int) IndexOutOfBoundsException IllegalArgumentException IllegalStateException",
        "void lend(int, int, int) IndexOutOfBoundsException IllegalArgumentException IllegalStateException",
        "int repay(int) IndexOutOfBoundsException IllegalStateException",
        "int doubt(int) IndexOutOfBoundsException IllegalStateException",
        "int pass(int) IllegalArgumentException IllegalStateException",
        "int day()",
        "int things()",
        "int where(int) IndexOutOfBoundsException",
        "int whereOn(int, int) IndexOutOfBoundsException IllegalArgumentException",
        "int load(int) IllegalArgumentException",
        "int fees(int) IndexOutOfBoundsException",
        "int loan(int) IndexOutOfBoundsException",
        "int purse(int) IllegalArgumentException",
        "int taken()",
        "int wish(int) IndexOutOfBoundsException",
    };

    public static void main(String[] args) {
        Set<String> due = new TreeSet<>();
        Collections.addAll(due, FACE);
        Check.holds("face " + faceOf(LeftThings.class), faceOf(LeftThings.class).equals(due));
        Check.holds("final class", Modifier.isFinal(LeftThings.class.getModifiers()));
        constructors();
        privateMembers(LeftThings.class);
        for (Class<?> inside : LeftThings.class.getDeclaredClasses()) {
            Check.holds(inside + " static", Modifier.isStatic(inside.getModifiers()));
            privateMembers(inside);
        }
        Check.finish();
    }

    private static Set<String> faceOf(Class<?> of) {
        Set<String> face = new TreeSet<>();
        for (Method method : of.getDeclaredMethods()) {
            if (Modifier.isPublic(method.getModifiers())) {
                face.add(lineOf(method));
            }
        }
        return face;
    }

    private static String lineOf(Method method) {
        String parameters = Arrays.toString(method.getParameterTypes());
        StringBuilder line = new StringBuilder();
        line.append(method.getReturnType().getName()).append(' ').append(method.getName());
        line.append('(').append(parameters, 1, parameters.length() - 1).append(')');
        for (Class<?> thrown : method.getExceptionTypes()) {
            line.append(' ').append(thrown.getSimpleName());
        }
        return line.toString();
    }

    private static void constructors() {
        Constructor<?>[] all = LeftThings.class.getDeclaredConstructors();
        Check.same("constructors", all.length, 1);
        Check.holds("public constructor", Modifier.isPublic(all[0].getModifiers()));
        Check.same("its parameters", all[0].getParameterCount(), 0);
    }

    private static void privateMembers(Class<?> of) {
        Set<String> faceNames = new TreeSet<>();
        for (String line : FACE) {
            faceNames.add(line.substring(line.indexOf(' ') + 1, line.indexOf('(')));
        }
        for (Method method : of.getDeclaredMethods()) {
            int modifiers = method.getModifiers();
            boolean hidden = Modifier.isPrivate(modifiers) && !faceNames.contains(method.getName());
            Check.holds(method + " of the face or private", Modifier.isPublic(modifiers) || hidden);
        }
        for (Field field : of.getDeclaredFields()) {
            int modifiers = field.getModifiers();
            Check.holds(field + " private", Modifier.isPrivate(modifiers));
            Check.holds(field + " final if static", !Modifier.isStatic(modifiers) || Modifier.isFinal(modifiers));
        }
    }
}
