import java.lang.reflect.Field;
import java.lang.reflect.Method;
import java.lang.reflect.Modifier;
import java.util.Arrays;
import java.util.List;
import java.util.Set;
import java.util.TreeSet;

/** The document's face, as a user of the class file finds it: rule 1 of LANGUAGE.md. */
public final class FaceTest {
    private static final String[] FACE = {
        "int type(long, int)", "int clear()", "int read()", "int saying(int, int)", "int on(int, int)",
        "int move(int, int, int)", "int could()", "long bound(int, int, int, int)", "long differ(int, int, int, int)",
        "long first(int, int)", "int never()", "int quarrel(int)", "int follows(int)", "int needed(int, int, int)",
        "int gives(int)", "int tell(int, int)", "int check()", "long pull(int, int, int)", "int count(int)"};
    private static final String[] CONSTANTS = {"int BAD", "int FULL", "int NONE", "long NO"};

    private static int wrong = 0;

    public static void main(String[] args) {
        face();
        constants();
        classes();
        System.out.println(wrong == 0 ? "the face is the document's" : wrong + " things are not the document's");
        if (wrong != 0) {
            System.exit(1);
        }
    }

    private static void rule(String what, boolean isKept) {
        if (!isKept) {
            wrong++;
            System.out.println("broken: " + what);
        }
    }

    private static void face() {
        Class<?> face = ChanceBounds.class;
        rule("public and final", Modifier.isPublic(face.getModifiers()) && Modifier.isFinal(face.getModifiers()));
        rule("one constructor, public", face.getDeclaredConstructors().length == 1 && face.getConstructors().length == 1);
        Set<String> methods = new TreeSet<>();
        for (Method method : face.getDeclaredMethods()) {
            if (!Modifier.isPrivate(method.getModifiers()) && !method.isSynthetic()) {
                String types = String.join(", ", Arrays.stream(method.getParameterTypes()).map(Class::getSimpleName).toList());
                methods.add(method.getReturnType().getSimpleName() + " " + method.getName() + "(" + types + ")");
                rule("public, not static: " + method, Modifier.isPublic(method.getModifiers()) && !Modifier.isStatic(method.getModifiers()));
            }
        }
        rule("the methods of the face: " + methods, methods.equals(new TreeSet<>(List.of(FACE))));
    }

    private static void constants() {
        Set<String> constants = new TreeSet<>();
        for (Field field : ChanceBounds.class.getDeclaredFields()) {
            if (!Modifier.isPrivate(field.getModifiers()) && !field.isSynthetic()) {
                constants.add(field.getType().getSimpleName() + " " + field.getName());
                rule("a public constant: " + field, field.toString().startsWith("public static final"));
            }
        }
        rule("the constants of the face: " + constants, constants.equals(new TreeSet<>(List.of(CONSTANTS))));
        rule("BAD = -1, FULL = -3, NONE = -9", ChanceBounds.BAD == -1 && ChanceBounds.FULL == -3 && ChanceBounds.NONE == -9);
        rule("NO = -1000000000000000000L", ChanceBounds.NO == -1000000000000000000L);
    }

    private static void classes() {
        Set<String> publicNames = new TreeSet<>();
        for (String method : FACE) {
            publicNames.add(method.replaceAll(".* (\\w+)\\(.*", "$1"));
        }
        for (Class<?> inside : ChanceBounds.class.getDeclaredClasses()) {
            rule("static and not public: " + inside, Modifier.isStatic(inside.getModifiers()) && !Modifier.isPublic(inside.getModifiers()));
            for (Method method : inside.getDeclaredMethods()) {
                rule("a name of the face's: " + method, !publicNames.contains(method.getName()));
            }
        }
        for (Method method : ChanceBounds.class.getDeclaredMethods()) {
            boolean isPrivate = Modifier.isPrivate(method.getModifiers());
            rule("a name of the face's: " + method, !isPrivate || !publicNames.contains(method.getName()));
        }
    }
}
