import java.io.IOException;
import java.nio.charset.StandardCharsets;
import java.nio.file.Files;
import java.nio.file.Path;
import java.util.ArrayList;
import java.util.Comparator;
import java.util.List;
import java.util.regex.Matcher;
import java.util.regex.Pattern;
import java.util.stream.Stream;

/**
 * README.md as it is written: its program is saved and its commands are run in a copy of the
 * project's folder, the program's lines are compared with its comments, the paths that it names are
 * looked for. It is run from the project's folder.
 */
public final class ReadmeTest {
    private static final String CI = ".ci/run";

    private final String page;
    private final Path top;
    private int looks = 0;
    private int wrong = 0;

    private ReadmeTest(String page, Path top) {
        this.page = page;
        this.top = top;
    }

    public static void main(String[] args) throws Exception {
        Path top = Files.createTempDirectory("readme");
        ReadmeTest test = new ReadmeTest(Files.readString(Path.of("README.md")), top);
        try {
            test.copyProject();
            test.paths();
            test.testsAreNamed();
            test.calls();
            test.commands();
        } finally {
            deleteAll(top);
        }
        System.out.println(test.looks + " things of README.md, " + test.wrong + " do not hold");
        if (test.wrong != 0) {
            System.exit(1);
        }
    }

    private void holds(String what, boolean is) {
        looks++;
        if (!is) {
            wrong++;
            System.out.println("does not hold: " + what);
        }
    }

    /** The program and the sources as they stand in the project, with shared beside them. */
    private void copyProject() throws IOException {
        Path copy = Files.createDirectory(top.resolve("main"));
        try (Stream<Path> files = Files.walk(Path.of("src"))) {
            for (Path file : files.toList()) {
                Files.copy(file, copy.resolve(file.toString()));
            }
        }
        Files.createSymbolicLink(top.resolve("shared"), Path.of("../shared").toRealPath());
        List<String> programs = blocks("java");
        holds("one program", programs.size() == 1);
        Files.writeString(copy.resolve("Example.java"), String.join("", programs));
    }

    private static void deleteAll(Path top) throws IOException {
        try (Stream<Path> files = Files.walk(top)) {
            for (Path file : files.sorted(Comparator.reverseOrder()).toList()) {
                Files.delete(file);
            }
        }
    }

    private List<String> blocks(String kind) {
        List<String> found = new ArrayList<>();
        Matcher matcher = Pattern.compile("(?ms)^```" + kind + "\n(.*?)^```$").matcher(page);
        while (matcher.find()) {
            found.add(matcher.group(1));
        }
        return found;
    }

    private void paths() throws IOException {
        Matcher matcher = Pattern.compile("`((?:src|\\.\\./shared)/[\\w./*]+)`").matcher(page);
        while (matcher.find()) {
            String path = matcher.group(1);
            boolean isThere = path.endsWith("/*.java") ? !namesIn(path.substring(0, path.length() - 7)).isEmpty() : Files.isRegularFile(Path.of(path));
            holds("there is " + path, isThere);
        }
    }

    private static List<String> namesIn(String folder) throws IOException {
        try (Stream<Path> files = Files.list(Path.of(folder))) {
            return files.map(file -> file.getFileName().toString()).filter(name -> name.endsWith(".java")).sorted().toList();
        }
    }

    private void testsAreNamed() throws IOException {
        for (String name : namesIn("src/test/java")) {
            holds("src/test/java/" + name + " is named", page.contains("`src/test/java/" + name + "`"));
        }
    }

    /** "This program shows every call" */
    private void calls() {
        String program = String.join("", blocks("java"));
        for (java.lang.reflect.Method call : ChanceBounds.class.getDeclaredMethods()) {
            if (java.lang.reflect.Modifier.isPublic(call.getModifiers())) {
                holds("the program shows " + call.getName(), program.contains("x." + call.getName() + "("));
            }
        }
    }

    private void commands() throws Exception {
        List<String> scripts = blocks("sh");
        holds("the first commands run the program", scripts.size() > 1 && scripts.get(0).contains("Example"));
        holds(CI + " is told, and can be run", scripts.remove(CI + "\n") && Files.isExecutable(Path.of(CI)));
        for (int n = 0; n < scripts.size(); n++) {
            String output = run(scripts.get(n));
            if (n == 0) {
                compare(output.lines().toList());
            }
        }
    }

    private String run(String script) throws Exception {
        ProcessBuilder builder = new ProcessBuilder("bash", "-e", "-c", script);
        builder.directory(top.resolve("main").toFile()).redirectErrorStream(true);
        Process process = builder.start();
        process.getOutputStream().close();
        String output = new String(process.getInputStream().readAllBytes(), StandardCharsets.UTF_8);
        int code = process.waitFor();
        holds(script + "ends with " + code + ": " + output, code == 0);
        return output;
    }

    /** Behind each line that prints stands, ahead of a colon, what it prints. */
    private void compare(List<String> printed) {
        int line = 0;
        for (String code : String.join("", blocks("java")).lines().toList()) {
            if (code.contains("System.out.println")) {
                String want = code.replaceAll(".*// (-?\\d+): .*", "$1");
                String got = line < printed.size() ? printed.get(line) : "nothing";
                holds(code.strip() + " (printed " + got + ")", want.equals(got));
                line++;
            }
        }
        holds("as many lines as are told", line == printed.size() && line > 0);
    }
}
