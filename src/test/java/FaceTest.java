import java.io.IOException;
import java.lang.reflect.Constructor;
import java.lang.reflect.Field;
import java.lang.reflect.Method;
import java.lang.reflect.Modifier;
import java.util.ArrayList;
import java.util.Arrays;
import java.util.List;
import java.util.TreeSet;
import java.util.regex.Matcher;
import java.util.regex.Pattern;

/** The public face: what the document lists, with its exceptions, and nothing else; and the words ahead of it. */
public final class FaceTest {
    private static final String INDEX = "java.lang.IndexOutOfBoundsException";
    private static final String ARGUMENT = "java.lang.IllegalArgumentException";
    private static final String STATE = "java.lang.IllegalStateException";

    // Each method as the document writes it; I, A and S stand for the three exceptions.
    private static final String[] METHODS = {
        "void seed(int) A", "int bond(int,int) I A", "int site(int,int) I A", "int numberOf(int,int) I A",
        "boolean shut(int,boolean) I", "int strike(int) A", "int cluster(int,int,int) I A", "int sizes(int,int,int) A",
        "boolean spans(int,int,boolean) A", "int edge(int,boolean) A", "int edgeAnew(int,boolean) A",
        "int ways(int,int) A", "int cut(int,int) A", "int red(int,int) A", "int shortest(int,int) A",
        "int polynomial(int,int,int) A", "long chance(int,int,int) A", "int pivots(int,int,int) A",
        "int time(int,int) I", "int ball(int,int) I A", "int rival(int,int,int) I A", "int invade(int,int) I A S",
        "int invaded(int,int) I A S", "boolean wet(int,boolean) I S", "int filled(int,int) A",
        "int leastWet(int,int,int) A", "int grow(int) A", "int lightning(int) I", "int fibre(int,int) I A",
        "int load(int,boolean) A", "int lastStraw(boolean)", "int drain(int) A", "int soak(int) A",
        "int trapped(boolean)", "int scale(int,int) A", "int estimate(int,int,int) A", "int type(int) A S",
        "int wipe()", "int measure(int,int) A S", "int count(int) A",
    };

    public static void main(String[] args) throws IOException {
        constants();
        methods();
        constructor();
        nestedClasses();
        List<String> document = Sentences.linesOfDocument();
        if (!document.isEmpty()) {
            Source source = new Source();
            headsAreAsListed(document, source);
            partsAreAsTold(document, source);
            commentsAreThePromises(document, source);
        }
        Due.end();
    }

    private static void constants() {
        Due.is("NONE", Seepwork.NONE, -1);
        Due.is("BONDS", Seepwork.BONDS, 0);
        Due.is("SITES", Seepwork.SITES, 1);
        Due.is("BOTH", Seepwork.BOTH, 2);
        int shown = 0;
        for (Field field : Seepwork.class.getDeclaredFields()) {
            if (!Modifier.isPrivate(field.getModifiers())) {
                shown++;
                Due.is(field.getName() + " is a constant", field.getModifiers(),
                        Modifier.PUBLIC | Modifier.STATIC | Modifier.FINAL);
            }
        }
        Due.is("how many fields are not private", shown, 4);
    }

    private static void methods() {
        TreeSet<String> got = new TreeSet<>();
        TreeSet<String> publicNames = new TreeSet<>();
        for (Method method : Seepwork.class.getDeclaredMethods()) {
            if (!Modifier.isPrivate(method.getModifiers())) {
                Due.is(method.getName() + " is public alone", method.getModifiers(), Modifier.PUBLIC);
                got.add(shown(method));
                publicNames.add(method.getName());
            }
        }
        TreeSet<String> due = new TreeSet<>();
        for (String method : METHODS) {
            due.add(method.replace(" I", " " + INDEX).replace(" A", " " + ARGUMENT).replace(" S", " " + STATE));
        }
        Due.isText("the methods", got.toString(), due.toString());
        for (Method method : Seepwork.class.getDeclaredMethods()) {
            boolean isHidden = Modifier.isPrivate(method.getModifiers());
            boolean isTwice = isHidden && publicNames.contains(method.getName());
            Due.is("private " + method.getName() + " has a public name", isTwice, false);
        }
    }

    private static String shown(Method method) {
        StringBuilder text = new StringBuilder();
        text.append(method.getReturnType().getName()).append(' ').append(method.getName()).append('(');
        for (int i = 0; i < method.getParameterTypes().length; i++) {
            text.append(i == 0 ? "" : ",").append(method.getParameterTypes()[i].getName());
        }
        text.append(')');
        for (Class<?> thrown : method.getExceptionTypes()) {
            text.append(' ').append(thrown.getName());
        }
        return text.toString();
    }

    private static void constructor() {
        Constructor<?>[] all = Seepwork.class.getDeclaredConstructors();
        Due.is("how many constructors", all.length, 1);
        Due.is("the constructor is public", all[0].getModifiers(), Modifier.PUBLIC);
        Due.isText("its parameters", Arrays.toString(all[0].getParameterTypes()), "[]");
        Due.is("the class is public and final", Seepwork.class.getModifiers(), Modifier.PUBLIC | Modifier.FINAL);
    }

    private static void nestedClasses() {
        Class<?>[] nested = Seepwork.class.getDeclaredClasses();
        Due.is("at most twelve classes", nested.length + 1 <= 12, true);
        for (Class<?> one : nested) {
            int modifiers = one.getModifiers();
            Due.is(one.getName() + " is static", Modifier.isStatic(modifiers), true);
            Due.is(one.getName() + " is public", Modifier.isPublic(modifiers), false);
            Due.is(one.getName() + " is protected", Modifier.isProtected(modifiers), false);
        }
    }

    private static String inOneLine(String text) {
        return text.replaceAll("\\s+", " ").trim();
    }

    /** The document's lines stand in the source in the same order, with the same names of parameters. */
    private static void headsAreAsListed(List<String> document, Source source) {
        List<String> due = new ArrayList<>();
        for (String line : document) {
            if (line.startsWith("public final class ") || line.startsWith("    public ")) {
                due.add(line.replaceAll("[;{]\\s*$", "").trim());
            }
        }
        List<String> got = new ArrayList<>();
        Matcher matcher = Pattern.compile("(?m)^ *public [^;{]*").matcher(source.code);
        while (matcher.find()) {
            got.add(inOneLine(matcher.group()));
        }
        Due.is("how many lines the document lists", due.size(), 1 + 2 + 1 + METHODS.length);
        for (int i = 0; i < Math.max(got.size(), due.size()); i++) {
            String one = i < got.size() ? got.get(i) : "nothing";
            Due.isText("the line " + i + " of the face", one, i < due.size() ? due.get(i) : "nothing");
        }
    }

    /** Ahead of the calls of a part its name stands, as the document has it. */
    private static void partsAreAsTold(List<String> document, Source source) {
        int parts = 0;
        for (String line : document) {
            Matcher told = Pattern.compile("Ahead of the calls (.*) the interface says: (---- .*)\\.").matcher(line);
            if (told.matches()) {
                parts++;
                Due.isText("the calls behind " + told.group(2), callsBehind(told.group(2), source),
                        told.group(1).replace("`", ""));
            }
        }
        Due.is("how many parts the document tells", parts, 8);
    }

    private static String callsBehind(String part, Source source) {
        int begin = source.text.indexOf("    // " + part + "\n");
        int end = source.text.indexOf("    // ----", begin + 1);
        StringBuilder calls = new StringBuilder();
        Matcher matcher = Pattern.compile("(?m)^    public \\w+ (\\w+)\\(").matcher(source.code);
        while (matcher.find()) {
            if (begin >= 0 && matcher.start() > begin && matcher.start() < end) {
                calls.append(calls.length() == 0 ? "" : ", ").append(matcher.group(1));
            }
        }
        return calls.toString();
    }

    /** The comment ahead of each method is what the document promises of it. */
    private static void commentsAreThePromises(List<String> document, Source source) {
        int promises = 0;
        for (String line : document) {
            Matcher promise = Pattern.compile("`([^`]*)`: (.*)").matcher(line);
            if (promise.matches()) {
                promises++;
                String head = promise.group(1).equals("Seepwork()") ? "public Seepwork()" : "public " + promise.group(1);
                Due.isText("the comment of " + head, commentOf(head, source), inOneLine(promise.group(2)));
            }
        }
        Due.is("how many promises the document has", promises, 1 + METHODS.length);
    }

    private static String commentOf(String head, Source source) {
        Matcher matcher = Pattern.compile("(?s)/\\*\\*((?:(?!\\*/).)*)\\*/\\s*(public [^;{]*)\\{").matcher(source.text);
        while (matcher.find()) {
            if (inOneLine(matcher.group(2)).equals(head)) {
                return inOneLine(matcher.group(1).replaceAll("\n *\\*", "\n"));
            }
        }
        return "none";
    }
}
