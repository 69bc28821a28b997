import java.lang.reflect.Constructor;
import java.lang.reflect.Field;
import java.lang.reflect.Method;
import java.lang.reflect.Modifier;
import java.util.Arrays;
import java.util.Set;
import java.util.TreeSet;

/** The face of the class: the document's constructor and methods, and nothing else that is not private. */
final class FaceTest {
    private static final Checks C = new Checks();

    private static final Set<String> FACE = new TreeSet<>(Arrays.asList(
            "int throwShells[int] IllegalArgumentException IllegalStateException",
            "int move[int] IndexOutOfBoundsException IllegalStateException",
            "int phase[]",
            "int onTurn[]",
            "int mover[]",
            "int movable[] IllegalStateException",
            "int graces[]",
            "int position[int, int] IndexOutOfBoundsException",
            "int square[int, int] IndexOutOfBoundsException",
            "int standing[int, int] IndexOutOfBoundsException IllegalArgumentException",
            "boolean isSafe[int] IndexOutOfBoundsException",
            "int home[int] IndexOutOfBoundsException",
            "int captures[int] IndexOutOfBoundsException",
            "int winner[]",
            "int distance[int] IllegalArgumentException",
            "int ways[int] IllegalArgumentException IllegalStateException",
            "int threat[int, int, int] IndexOutOfBoundsException IllegalArgumentException",
            "int captureChance[int] IllegalArgumentException IllegalStateException"));

    public static void main(String[] args) {
        Class<?> face = PachisiYard.class;
        C.due("public", Modifier.isPublic(face.getModifiers()), true);
        C.due("final", Modifier.isFinal(face.getModifiers()), true);
        C.due("constructors", face.getDeclaredConstructors().length, 1);
        for (Constructor<?> constructor : face.getDeclaredConstructors()) {
            C.due("public constructor", Modifier.isPublic(constructor.getModifiers()), true);
            C.due("no parameters", constructor.getParameterCount(), 0);
        }
        Set<String> open = new TreeSet<>();
        for (Method method : face.getDeclaredMethods()) {
            if (!Modifier.isPrivate(method.getModifiers())) {
                C.due(method.getName() + " is public", Modifier.isPublic(method.getModifiers()), true);
                open.add(pictureOf(method));
            }
        }
        System.out.println(open.equals(FACE) ? "the face is the document's" : "the face is " + open);
        C.due("the face", open.equals(FACE), true);
        for (Field field : face.getDeclaredFields()) {
            C.due(field.getName() + " is private", Modifier.isPrivate(field.getModifiers()), true);
        }
        rulesOfTheLanguage(face);
        C.end("FaceTest");
    }

    /** Of LANGUAGE.md what can be seen from outside: its rules 1, 2, 5 and 11. */
    private static void rulesOfTheLanguage(Class<?> face) {
        C.due("classes in the file, some twelve at most", face.getDeclaredClasses().length <= 11, true);
        keepsTheRules(face);
        for (Class<?> inside : face.getDeclaredClasses()) {
            int modifiers = inside.getModifiers();
            C.due(inside + " is static", Modifier.isStatic(modifiers), true);
            C.due(inside + " is open", Modifier.isPublic(modifiers) || Modifier.isProtected(modifiers), false);
            keepsTheRules(inside);
        }
    }

    private static void keepsTheRules(Class<?> type) {
        int kept = 0;
        for (Field field : type.getDeclaredFields()) {
            boolean isStatic = Modifier.isStatic(field.getModifiers());
            kept += isStatic ? 0 : 1;
            C.due(field + " is final if static", !isStatic || Modifier.isFinal(field.getModifiers()), true);
        }
        C.due("fields of " + type + ", some twenty at most", kept <= 20, true);
        for (Method method : type.getDeclaredMethods()) {
            boolean hidden = Modifier.isPrivate(method.getModifiers()) || type != PachisiYard.class;
            C.due(method + " bears a public name", hidden && bearsAPublicName(method), false);
            C.due(method + " takes seven parameters at most", method.getParameterCount() <= 7, true);
        }
    }

    private static boolean bearsAPublicName(Method method) {
        for (String open : FACE) {
            if (open.contains(" " + method.getName() + "[")) {
                return true;
            }
        }
        return false;
    }

    private static String pictureOf(Method method) {
        StringBuilder text = new StringBuilder();
        text.append(method.getReturnType()).append(' ').append(method.getName());
        text.append(Arrays.toString(method.getParameterTypes()));
        for (Class<?> thrown : method.getExceptionTypes()) {
            text.append(' ').append(thrown.getSimpleName());
        }
        return text.toString();
    }
}
