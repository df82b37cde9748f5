import java.io.IOException;
import java.nio.file.Files;
import java.nio.file.Path;
import java.util.List;
import java.util.regex.Matcher;
import java.util.regex.Pattern;

/** Rules of LANGUAGE.md that can be read off the text of the source; it runs where the project's root is. */
public final class LanguageTest {
    private static final int MOST_LINES_OF_A_METHOD = 60;
    private static final int MOST_PARAMETERS = 7;

    public static void main(String[] args) throws IOException {
        List<String> lines = Files.readAllLines(Path.of("src/main/java/Seepwork.java"));
        String code = withoutComments(String.join("\n", lines) + "\n");
        imports(code);
        forbiddenWords(code);
        staticFields(code);
        methodsAreShort(code);
        Due.end();
    }

    private static String withoutComments(String text) {
        return text.replaceAll("(?s)/\\*.*?\\*/", "").replaceAll("//[^\n]*", "");
    }

    private static void imports(String code) {
        Matcher matcher = Pattern.compile("import ([\\w.*]+);").matcher(code);
        while (matcher.find()) {
            Due.isText("an import", matcher.group(1), "java.util.Arrays");
        }
        Due.is("there is a package line", code.contains("package "), false);
    }

    private static void forbiddenWords(String code) {
        String[] forbidden = {"->", "::", "\\btry\\b", "\\bcatch\\b", "\\bfinally\\b", "\\bsynchronized\\b",
            "\\bassert\\b", "Exact\\(", "\\bSystem\\b", "\\bThread\\b", "\\bRandom\\b", "\\bObject\\b",
            "\\bgetClass\\b", "\\bhashCode\\b", "\" *\\+", "\\+ *\"", "\\bwhile *\\(true\\)", "for *\\(;;", "\\bvar\\b",
            "\\bprotected\\b", "[^\\x00-\\x7e]", "\\bthis\\b"};
        for (String pattern : forbidden) {
            Matcher matcher = Pattern.compile(pattern).matcher(code);
            if (matcher.find()) {
                Due.tell("the source has " + matcher.group());
            }
        }
        Matcher matcher = Pattern.compile("throw (?!new \\w+\\(\"[^\"]+\"\\);)").matcher(code);
        Due.is("each throw makes its exception with a written text", matcher.find(), false);
    }

    private static void staticFields(String code) {
        Matcher matcher = Pattern.compile("static (?!final)(?!\\w+(\\[\\])? \\w+\\()[^\n]*").matcher(code);
        if (matcher.find()) {
            Due.tell("a static field is not final: " + matcher.group());
        }
    }

    /** A method begins with its head on one line, or two, and ends where a line closes it as deep as it began. */
    private static void methodsAreShort(String code) {
        String head = "(?m)^( +)(?:(?:public|private|static|final) )*\\w+(?:\\[\\])? \\w+\\(([^)]*)\\)[^;{]*\\{\n";
        Matcher matcher = Pattern.compile(head).matcher(code);
        int found = 0;
        while (matcher.find()) {
            int end = code.indexOf("\n" + matcher.group(1) + "}", matcher.end() - 1);
            String body = code.substring(matcher.start(), Math.max(matcher.start(), end));
            int length = body.split("\n").length + 1;
            String shown = matcher.group().trim();
            Due.is("short enough: " + shown, length <= MOST_LINES_OF_A_METHOD, true);
            Due.is("few enough parameters: " + shown, matcher.group(2).split(",").length <= MOST_PARAMETERS, true);
            found++;
        }
        Due.is("methods are found", found > 100, true);
    }
}
