import java.io.File;
import java.io.IOException;
import java.net.URL;
import java.net.URLClassLoader;
import java.nio.file.Files;
import java.nio.file.Path;
import java.util.ArrayList;
import java.util.List;
import java.util.regex.Matcher;
import java.util.regex.Pattern;

/** README.md: its lines of Java answer what stands behind them, its commands work, and it names each test there is. */
public final class ReadmeTest {
    private static final Pattern ANSWER = Pattern.compile("\\s*\\w+ (\\w+) = [^;]*;\\s*// (-?\\w+)(: .*)?");
    private static final Pattern REFUSAL = Pattern.compile("(\\s*[^;=]*;)\\s*// throws (\\w+)(: .*)?");
    private static final Path TESTS = Path.of("src/test/java");

    private final List<String> lines = Files.readAllLines(Path.of("README.md"));

    private ReadmeTest() throws IOException {
    }

    public static void main(String[] args) throws Exception {
        ReadmeTest test = new ReadmeTest();
        test.javaLinesHold();
        test.commandsWork();
        test.testsAreNamed();
        Due.end();
    }

    /** The lines between the marks of such blocks. */
    private List<String> blocks(String language) {
        List<String> inside = new ArrayList<>();
        boolean isIn = false;
        for (String line : lines) {
            if (line.startsWith("```")) {
                isIn = !isIn && line.equals("```" + language);
            } else if (isIn) {
                inside.add(line);
            }
        }
        return inside;
    }

    /** All lines together are one run: each that tells an answer puts its own one into a list. */
    private void javaLinesHold() throws Exception {
        StringBuilder body = new StringBuilder();
        List<String> due = new ArrayList<>();
        List<String> shown = new ArrayList<>();
        for (String line : blocks("java")) {
            Matcher answer = ANSWER.matcher(line);
            Matcher refusal = REFUSAL.matcher(line);
            if (answer.matches()) {
                body.append(line).append("\nanswers.add(\"\" + ").append(answer.group(1)).append(");\n");
                due.add(answer.group(2));
                shown.add(line);
            } else if (refusal.matches()) {
                body.append("try {").append(refusal.group(1)).append(" answers.add(\"nothing\");\n");
                body.append("} catch (RuntimeException e) { answers.add(e.getClass().getSimpleName()); }\n");
                due.add(refusal.group(2));
                shown.add(line);
            } else {
                Due.is("a comment tells what is tried: " + line, line.contains("//"), false);
                body.append(line).append('\n');
            }
        }
        Due.is("there are many lines to try", due.size() > 40, true);
        List<?> got = run(body.toString());
        for (int i = 0; i < due.size(); i++) {
            Due.isText(shown.get(i), i < got.size() ? got.get(i).toString() : "nothing", due.get(i));
        }
        for (String method : methods()) {
            Due.is("a line calls " + method + "()", body.indexOf("work." + method + "(") >= 0, true);
        }
    }

    private static List<String> methods() {
        List<String> names = new ArrayList<>();
        for (java.lang.reflect.Method method : Seepwork.class.getDeclaredMethods()) {
            if (java.lang.reflect.Modifier.isPublic(method.getModifiers())) {
                names.add(method.getName());
            }
        }
        return names;
    }

    private static List<?> run(String body) throws Exception {
        Path folder = Files.createDirectories(Path.of("build/readme"));
        Path file = folder.resolve("Shown.java");
        Files.writeString(file, "import java.util.*;\npublic final class Shown {\npublic static List<String> run() {\n"
                + "List<String> answers = new ArrayList<>();\n" + body + "return answers;\n}\n}\n");
        boolean isCompiled = works("javac", "-cp", System.getProperty("java.class.path"), "-d", folder.toString(),
                file.toString());
        if (!isCompiled) {
            return List.of();
        }
        try (URLClassLoader loader = new URLClassLoader(new URL[] {folder.toUri().toURL()})) {
            return (List<?>) loader.loadClass("Shown").getMethod("run").invoke(null);
        }
    }

    /** They are run in their order, from the project's root, as the page says. */
    private void commandsWork() throws IOException, InterruptedException {
        List<String> commands = blocks("sh");
        Due.is("there are commands to try", commands.size() >= 3, true);
        for (String command : commands) {
            works("sh", "-c", command);
        }
        Due.is("the page says how to run all tests", lines.contains("    .ci/run"), true);
        Due.is(".ci/run can be run", new File(".ci/run").canExecute(), true);
    }

    private static boolean works(String... command) throws IOException, InterruptedException {
        Process process = new ProcessBuilder(command).redirectErrorStream(true).start();
        String told = new String(process.getInputStream().readAllBytes());
        int code = process.waitFor();
        Due.is(String.join(" ", command) + " told " + told + "; its exit code", code, 0);
        return code == 0;
    }

    private void testsAreNamed() throws IOException {
        String page = String.join("\n", lines);
        String[] files = TESTS.toFile().list();
        for (String file : files) {
            String name = file.replace(".java", "");
            Due.is("README.md names " + name, page.contains("`" + name + "`"), true);
        }
        Matcher named = Pattern.compile("`(\\w+Test)`").matcher(page);
        while (named.find()) {
            boolean isThere = Files.exists(TESTS.resolve(named.group(1) + ".java"));
            Due.is(named.group(1) + ", which README.md names, is there", isThere, true);
        }
    }
}
