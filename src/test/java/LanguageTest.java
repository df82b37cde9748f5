import java.io.IOException;
import java.util.ArrayList;
import java.util.List;
import java.util.TreeSet;
import java.util.regex.Matcher;
import java.util.regex.Pattern;

/** The rules of LANGUAGE.md that can be read off the text of the source, by their numbers. */
public final class LanguageTest {
    private static final int MOST_LINES_OF_A_METHOD = 60;
    private static final int MOST_PARAMETERS = 7;
    private static final int MOST_CALLS_DEEP = 8;
    private static final int MOST_TYPES = 12;
    private static final int MOST_FIELDS = 20;
    private static final List<String> EXCEPTIONS = List.of("IllegalStateException", "IllegalArgumentException",
            "IndexOutOfBoundsException", "ArithmeticException", "UnsupportedOperationException",
            "NoSuchElementException", "RuntimeException");
    // The class needs no more of the library than these.
    private static final List<String> LIBRARY_TYPES = List.of("String", "StringBuilder", "Integer", "Math", "Arrays");
    private static final List<String> LIBRARY_CALLS = List.of("Math.max", "Math.min", "Math.abs", "Integer.bitCount",
            "Arrays.fill", "name.length", "name.append", "name.toString", "name.setLength", "measure.equals");

    private final Source source;

    private LanguageTest(Source source) {
        this.source = source;
    }

    public static void main(String[] args) throws IOException {
        LanguageTest test = new LanguageTest(new Source());
        Due.is("methods are found", test.source.methods.size() > 100, true);
        Due.is("fields are found", test.source.fields.size() > 50, true);
        test.rule1Face();
        test.rule2ClassesInside();
        test.rule3Types();
        test.rule4Library();
        test.rule5StaticFields();
        test.rule6Exceptions();
        test.rule7NothingThrowsByItself();
        test.rule9LoopsEnd();
        test.rule10Texts();
        test.rule11Sizes();
        test.rules8And11CallsEnd();
        test.rule12NothingIsMadeInCalls();
        Due.end();
    }

    private void hasNone(String rule, String text, String... patterns) {
        for (String pattern : patterns) {
            Matcher matcher = Pattern.compile(pattern).matcher(text);
            if (matcher.find()) {
                Due.tell("rule " + rule + ": the source has " + matcher.group());
            }
        }
    }

    private void rule1Face() {
        hasNone("1", source.code, "\\bpackage\\b", "\\bprotected\\b");
        TreeSet<String> face = new TreeSet<>();
        for (Source.Method method : source.methods) {
            boolean isOuter = method.type.equals("Seepwork");
            Due.is("rule 1: " + method.shown() + " is public or private", !isOuter || method.head.startsWith("p"), true);
            Due.is("rule 1: " + method.shown() + " is public", method.isPublic() && !isOuter, false);
            if (method.isPublic()) {
                face.add(method.name);
            }
        }
        for (Source.Method method : source.methods) {
            boolean isTwice = !method.isPublic() && face.contains(method.name);
            Due.is("rule 1: " + method.shown() + " bears the name of a public one", isTwice, false);
        }
    }

    private void rule2ClassesInside() {
        Due.isText("rule 2: the outer class", source.typeHeads.get(0), "public final class Seepwork");
        for (int i = 1; i < source.types.size(); i++) {
            String due = "private static final class " + source.types.get(i);
            Due.isText("rule 2: a class inside", source.typeHeads.get(i), due);
        }
        hasNone("2", source.code, "->", "::");
        for (Source.Method method : source.methods) {
            hasNone("2, in " + method.shown(), method.body, "\\b(class|enum|interface|record)\\b");
        }
    }

    /** No double and no float is needed, so none of the rules on them is looked at. */
    private void rule3Types() {
        hasNone("3", source.code, "\\b(double|float|var|Object)\\b", "\\]\\s*\\[\\s*\\]", "<\\w+>");
        for (int i = 0; i < source.text.length(); i++) {
            boolean isPlain = source.text.charAt(i) == '\n' || source.text.charAt(i) >= 32 && source.text.charAt(i) < 127;
            Due.is("rules 3 and 4: the sign " + i + " is a plain one", isPlain, true);
        }
        Matcher matcher = Pattern.compile("\\b[A-Z]\\w*[a-z]\\w*").matcher(source.code);
        TreeSet<String> unknown = new TreeSet<>();
        while (matcher.find()) {
            String name = matcher.group();
            if (!source.types.contains(name) && !LIBRARY_TYPES.contains(name) && !EXCEPTIONS.contains(name)) {
                unknown.add(name);
            }
        }
        Due.isText("rules 3 and 13: names of other types", unknown.toString(), "[]");
    }

    private void rule4Library() {
        Matcher matcher = Pattern.compile("\\bimport ([^;]*);").matcher(source.code);
        while (matcher.find()) {
            Due.isText("rule 4: an import", matcher.group(1), "java.util.Arrays");
        }
        hasNone("4", source.code, "Exact\\b", "\\b(System|Thread|Random|Runtime|Class|getClass)\\b");
        for (Source.Method method : source.methods) {
            for (Source.Call call : Source.callsIn(method.body)) {
                boolean isOwn = source.meantBy(call, method) != null;
                boolean isListed = LIBRARY_CALLS.contains(call.receiver + "." + call.name);
                String shown = call.receiver + "." + call.name + "() in " + method.shown();
                Due.is("rule 4: may be called: " + shown, isOwn || isListed, true);
            }
            // They fill rows of numbers alone; a row of booleans is none.
            Matcher filled = Pattern.compile("Arrays\\.fill\\((\\w+),").matcher(method.body);
            while (filled.find()) {
                boolean isOfNumbers = source.code.contains("int[] " + filled.group(1) + " =");
                Due.is("rule 4: " + filled.group(1) + " is a row of numbers", isOfNumbers, true);
            }
        }
    }

    private void rule5StaticFields() {
        for (Source.Field field : source.fields) {
            boolean isStatic = Pattern.compile("\\bstatic\\b").matcher(field.text).find();
            boolean isConstant = field.text.matches("(?s)(public|private) static final (int|long|boolean|char|String) .*");
            Due.is("rule 5: a constant: " + field.text, !isStatic || isConstant, true);
        }
        hasNone("5", source.code, "\\bstatic\\s*\\{");
    }

    private void rule6Exceptions() {
        hasNone("6", source.code, "\\b(try|catch|finally|synchronized|assert|instanceof)\\b",
                "\\b(boolean equals|int hashCode|String toString)\\(", "\\bextends\\b", "\\bimplements\\b");
        Matcher matcher = Pattern.compile("\\bthrow\\b[^;]*;").matcher(source.code);
        while (matcher.find()) {
            // What the text holds is not looked at here, but that it is there.
            String thrown = matcher.group();
            Matcher form = Pattern.compile("throw new (\\w+)\\(\" +\"\\);").matcher(thrown);
            Due.is("rule 6: " + thrown, form.matches() && EXCEPTIONS.contains(form.group(1)), true);
        }
        for (Source.Method method : source.methods) {
            boolean throwsOne = Pattern.compile("\\bthrow\\b").matcher(method.body).find();
            Due.is("rule 6: a throw in " + method.shown(), method.isConstructor() && throwsOne, false);
        }
        // Texts are compared by equals alone; no number of the class is an Integer.
        hasNone("6", source.code, "==\\s*\"", "\"\\s*[=!]=", "\\bInteger \\w");
    }

    /** What is divided by no constant is looked at in the method itself. */
    private void rule7NothingThrowsByItself() {
        hasNone("7", source.code, "\\((String|StringBuilder|" + String.join("|", source.types) + ")(\\[\\])?\\)\\s*\\w");
        for (Source.Method method : source.methods) {
            Matcher matcher = Pattern.compile("[/%]=?\\s*(\\([^)]*\\)|[\\w.]+)").matcher(method.body);
            while (matcher.find()) {
                String divisor = matcher.group(1);
                boolean isConstant = divisor.matches("[A-Z_]+|[1-9]\\d*L?|\\(SIDE - 1\\)");
                boolean isLookedAt = method.body.contains(divisor + " > 0");
                Due.is("rule 7: " + divisor + " is not 0 in " + method.shown(), isConstant || isLookedAt, true);
            }
        }
    }

    private void rule9LoopsEnd() {
        for (Source.Method method : source.methods) {
            hasNone("9, in " + method.shown(), method.body, "\\bdo\\b");
            int found = 0;
            Matcher loop = Pattern.compile("\\b(for|while) \\((.*)\\) \\{\n").matcher(method.body);
            while (loop.find()) {
                found++;
                String body = Source.bodyFrom(method.body, loop.end(2));
                boolean isEnding = loop.group(1).equals("for") ? forEnds(loop.group(2), body) : whileEnds(loop.group(2), body);
                Due.is("rule 9: the loop " + loop.group().trim() + " in " + method.shown() + " ends", isEnding, true);
            }
            Due.is("rule 9: loops of " + method.shown() + " that are read", found,
                    method.body.split("\\b(for|while)\\b", -1).length - 1);
        }
    }

    /** It takes each part of a row; or it counts what it compares, by one, and its body leaves that as it is. */
    private static boolean forEnds(String head, String body) {
        Matcher form = Pattern.compile("int (\\w+) = [^;]*; \\1 (<|<=|>|>=) [^;]*; \\1(\\+\\+|--)").matcher(head);
        if (!form.matches()) {
            return head.matches("\\w+ \\w+ : \\w+");
        }
        return form.group(2).startsWith("<") == form.group(3).equals("++") && !isChanged(form.group(1), body);
    }

    private static boolean isChanged(String name, String body) {
        String change = "(?<![.\\w])" + name + "( [-+*/%|&^<>]*= |\\+\\+|--)";
        return Pattern.compile(change).matcher(body).find();
    }

    /** It begins with what it counts, below a bound, and its body counts that up. */
    private static boolean whileEnds(String head, String body) {
        Matcher form = Pattern.compile("(\\w+) < \\w+( && .*)?").matcher(head);
        return form.matches() && body.contains(form.group(1) + "++;") && !body.contains(form.group(1) + " =");
    }

    private void rule10Texts() {
        hasNone("10", source.code, "\"\\s*\\+", "\\+=?\\s*\"", "\\byield\\b");
    }

    private void rule11Sizes() {
        for (Source.Method method : source.methods) {
            Due.is("rule 11: " + method.shown() + " is short", method.lines <= MOST_LINES_OF_A_METHOD, true);
            Due.is("rule 11: parameters of " + method.shown(), method.parameters() <= MOST_PARAMETERS, true);
        }
        Due.is("rule 11: " + source.types.size() + " classes are few enough", source.types.size() <= MOST_TYPES, true);
        for (String type : source.types) {
            int fields = 0;
            for (Source.Field field : source.fields) {
                fields += field.type.equals(type) && !field.text.contains("static ") ? 1 : 0;
            }
            Due.is("rule 11: the fields of " + type + " are few enough", fields <= MOST_FIELDS, true);
        }
    }

    private void rules8And11CallsEnd() {
        for (Source.Method method : source.methods) {
            int depth = depthOf(method, new ArrayList<>());
            Due.is("rules 8 and 11: the calls of " + method.shown() + " are few enough", depth <= MOST_CALLS_DEEP, true);
        }
    }

    /** How many calls stand open at most, the method's own with them; one that comes back to itself is told. */
    private int depthOf(Source.Method method, List<Source.Method> above) {
        if (above.contains(method)) {
            Due.tell("rule 8: " + method.shown() + " calls itself");
            return 1;
        }
        above.add(method);
        int deepest = 0;
        for (Source.Call call : Source.callsIn(method.body)) {
            Source.Method next = source.meantBy(call, method);
            if (next != null) {
                deepest = Math.max(deepest, depthOf(next, above));
            }
        }
        above.remove(above.size() - 1);
        return 1 + deepest;
    }

    /** Rows and objects are made for fields alone; a call makes the exception that it throws, and nothing else. */
    private void rule12NothingIsMadeInCalls() {
        for (Source.Method method : source.methods) {
            hasNone("12, in " + method.shown(), method.body, "(?<!throw )\\bnew \\w+");
            hasNone("12, in " + method.shown(), method.body, "\\.(clone|copyOf|copyOfRange|toCharArray|values)\\(");
            hasNone("12, in " + method.shown(), method.body, "\\bthis\\b");
        }
    }
}
