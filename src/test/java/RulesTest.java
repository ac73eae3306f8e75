import java.lang.reflect.Executable;
import java.lang.reflect.Field;
import java.lang.reflect.Method;
import java.lang.reflect.Modifier;
import java.nio.charset.StandardCharsets;
import java.nio.file.Files;
import java.nio.file.Path;
import java.util.ArrayList;
import java.util.Arrays;
import java.util.List;
import java.util.Set;
import java.util.TreeSet;
import java.util.regex.Matcher;
import java.util.regex.Pattern;

/** The document's face, and those rules of LANGUAGE.md that can be seen in the source or the class. */
public final class RulesTest {
    private static final String[] FACE = {
        "int type(long, int)", "int clear()", "int read()", "int saying(int, int)", "int on(int, int)",
        "int move(int, int, int)", "int could()", "long bound(int, int, int, int)", "long differ(int, int, int, int)",
        "long first(int, int)", "int never()", "int quarrel(int)", "int follows(int)", "int needed(int, int, int)",
        "int gives(int)", "int tell(int, int)", "int check()", "long pull(int, int, int)", "int count(int)"};
    private static final String[] CONSTANTS = {"int BAD", "int FULL", "int NONE", "long NO"};

    private static int wrong = 0;

    public static void main(String[] args) throws Exception {
        String source = Files.readString(Path.of("src/main/java/ChanceBounds.java"), StandardCharsets.ISO_8859_1);
        face();
        classes();
        String code = withoutCommentsAndTexts(source);
        words(code);
        methodLengths(code);
        System.out.println(wrong == 0 ? "the rules are kept" : wrong + " rules are broken");
        if (wrong != 0) {
            System.exit(1);
        }
    }

    private static void rule(String what, boolean isKept) {
        if (!isKept) {
            wrong++;
            System.out.println("broken: " + what);
        }
    }

    private static void face() {
        Class<?> face = ChanceBounds.class;
        rule("public and final", Modifier.isPublic(face.getModifiers()) && Modifier.isFinal(face.getModifiers()));
        rule("one constructor, public", face.getDeclaredConstructors().length == 1 && face.getConstructors().length == 1);
        Set<String> methods = new TreeSet<>();
        for (Method method : face.getDeclaredMethods()) {
            if (!Modifier.isPrivate(method.getModifiers()) && !method.isSynthetic()) {
                String types = String.join(", ", Arrays.stream(method.getParameterTypes()).map(Class::getSimpleName).toList());
                methods.add(method.getReturnType().getSimpleName() + " " + method.getName() + "(" + types + ")");
                rule("public, not static: " + method, Modifier.isPublic(method.getModifiers()) && !Modifier.isStatic(method.getModifiers()));
            }
        }
        rule("the methods of the face: " + methods, methods.equals(new TreeSet<>(List.of(FACE))));
        Set<String> constants = new TreeSet<>();
        for (Field field : face.getDeclaredFields()) {
            if (!Modifier.isPrivate(field.getModifiers()) && !field.isSynthetic()) {
                constants.add(field.getType().getSimpleName() + " " + field.getName());
                rule("a public constant: " + field, field.toString().startsWith("public static final"));
            }
        }
        rule("the constants of the face: " + constants, constants.equals(new TreeSet<>(List.of(CONSTANTS))));
    }

    private static void classes() {
        List<Class<?>> all = new ArrayList<>(List.of(ChanceBounds.class.getDeclaredClasses()));
        Set<String> publicNames = new TreeSet<>();
        for (String method : FACE) {
            publicNames.add(method.replaceAll(".* (\\w+)\\(.*", "$1"));
        }
        for (Class<?> inside : all) {
            rule("static and not public: " + inside, Modifier.isStatic(inside.getModifiers()) && !Modifier.isPublic(inside.getModifiers()));
            for (Method method : inside.getDeclaredMethods()) {
                rule("a name of the face's: " + method, !publicNames.contains(method.getName()));
            }
        }
        all.add(ChanceBounds.class);
        rule("at most twelve classes", all.size() <= 12);
        for (Class<?> one : all) {
            long fields = Arrays.stream(one.getDeclaredFields()).filter(f -> !Modifier.isStatic(f.getModifiers())).count();
            rule("at most twenty fields: " + one, fields <= 20);
            for (Field field : one.getDeclaredFields()) {
                rule("static is final: " + field, !Modifier.isStatic(field.getModifiers()) || Modifier.isFinal(field.getModifiers()));
            }
            List<Executable> calls = new ArrayList<>(List.of(one.getDeclaredMethods()));
            calls.addAll(List.of(one.getDeclaredConstructors()));
            for (Executable call : calls) {
                rule("at most seven parameters: " + call, call.getParameterCount() <= 7);
                rule("nothing is thrown: " + call, call.getExceptionTypes().length == 0);
            }
        }
    }

    private static String withoutCommentsAndTexts(String source) {
        return source.replaceAll("(?s)/\\*.*?\\*/", "").replaceAll("//[^\n]*", "")
                .replaceAll("\"(\\\\.|[^\"\\\\])*\"", "TEXT").replaceAll("'(\\\\.|[^'\\\\])'", "SIGN");
    }

    private static void words(String code) {
        String[] words = {"throw", "throws", "try", "catch", "finally", "synchronized", "assert", "import", "package",
            "Object", "System\\.(?!arraycopy)\\w+", "hashCode", "toString", "\\w+Exact", "Thread", "var", "yield",
            "volatile", "native", "double", "float", "TEXT \\+", "\\+ TEXT", "instanceof"};
        for (String word : words) {
            rule("no " + word, !Pattern.compile("\\b" + word + "\\b").matcher(code).find());
        }
        rule("no lambda, no method reference", !code.contains("->") && !code.contains("::"));
        rule("no loop without a bound", !Pattern.compile("for \\(;;|while \\(true|\\bdo\\b").matcher(code).find());
    }

    private static void methodLengths(String code) {
        Matcher matcher = Pattern.compile("(?m)^( {4}| {8})(?=\\S)[^=;]*\\([^=;]*\\) \\{$(?s:.*?)^\\1\\}$").matcher(code);
        int methods = 0;
        while (matcher.find()) {
            methods++;
            rule("a short method: " + matcher.group().lines().findFirst().orElse(""), matcher.group().lines().count() <= 60);
        }
        rule("methods were found", methods > 40);
    }
}
