import java.io.IOException;
import java.nio.file.Files;
import java.nio.file.Path;
import java.util.ArrayList;
import java.util.List;
import java.util.regex.Matcher;
import java.util.regex.Pattern;

/** The text of the class, taken apart: its types, its methods, and what these call. It is read where the project's root is. */
final class Source {
    static final Path FILE = Path.of("src/main/java/Seepwork.java");
    private static final Pattern TYPE = Pattern.compile("\\b(?:class|enum|interface|record) (\\w+)");
    private static final Pattern CALL = Pattern.compile("(new )?(?:(\\w+)\\s*\\.\\s*)?\\b(\\w+)\\s*\\(");
    private static final List<String> WORDS_AHEAD_OF_BRACKETS = List.of("if", "for", "while", "switch", "return", "catch");

    /** A method or a constructor; the body is what stands between its brackets. */
    static final class Method {
        final String type;
        final String head;
        final String name;
        final String body;
        final int lines;

        Method(String type, String head, String body) {
            this.type = type;
            this.head = head;
            this.body = body;
            String ahead = head.substring(0, head.indexOf('(')).trim();
            name = ahead.substring(ahead.lastIndexOf(' ') + 1);
            lines = (head + body).split("\n", -1).length;
        }

        boolean isConstructor() {
            return name.equals(type);
        }

        boolean isPublic() {
            return head.startsWith("public ");
        }

        int parameters() {
            String inside = head.substring(head.indexOf('(') + 1, head.indexOf(')')).trim();
            return inside.isEmpty() ? 0 : inside.split(",").length;
        }

        String shown() {
            return type + "." + name + "()";
        }
    }

    /** What stands in a type, but in no method: a field, as a rule. */
    static final class Field {
        final String type;
        final String text;

        Field(String type, String text) {
            this.type = type;
            this.text = text;
        }
    }

    /** A call in a method's body: what stands ahead of the dot, or "" if there is none. */
    static final class Call {
        final String receiver;
        final String name;

        Call(String receiver, String name) {
            this.receiver = receiver;
            this.name = name;
        }
    }

    final String text;
    /** As long as the text, and with as many lines, but without comments and what texts hold. */
    final String code;
    final List<String> types = new ArrayList<>();
    final List<Method> methods = new ArrayList<>();
    final List<Field> fields = new ArrayList<>();
    final List<String> typeHeads = new ArrayList<>();

    // The types and methods that are open where the text is being read.
    private final List<String> open = new ArrayList<>();
    private int begun = 0;
    private int bodyBegun = 0;
    private int bracketsInBody = 0;

    Source() throws IOException {
        text = Files.readString(FILE);
        code = withoutComments(text);
        for (int i = 0; i < code.length(); i++) {
            read(i);
        }
    }

    /** Texts go first: what looks like a comment may stand in one, and no comment of the class has an odd sign. */
    private static String withoutComments(String text) {
        StringBuilder code = new StringBuilder(text);
        Matcher matcher = Pattern.compile("(?s)/\\*.*?\\*/|//[^\n]*|\"(?:\\\\.|[^\"\\\\])*\"").matcher(text);
        while (matcher.find()) {
            boolean isText = matcher.group().startsWith("\"");
            for (int i = matcher.start(); i < matcher.end(); i++) {
                boolean isMark = isText && (i == matcher.start() || i == matcher.end() - 1);
                if (!isMark && text.charAt(i) != '\n') {
                    code.setCharAt(i, ' ');
                }
            }
        }
        return code.toString();
    }

    private void read(int i) {
        char sign = code.charAt(i);
        if (bracketsInBody > 0) {
            bracketsInBody += sign == '{' ? 1 : sign == '}' ? -1 : 0;
            if (bracketsInBody == 0) {
                String type = open.get(open.size() - 1);
                methods.add(new Method(type, code.substring(begun, bodyBegun).trim(), code.substring(bodyBegun + 1, i)));
                begun = i + 1;
            }
        } else if (sign == '{') {
            openAt(i);
        } else if (sign == '}') {
            open.remove(open.size() - 1);
            begun = i + 1;
        } else if (sign == ';') {
            addField(code.substring(begun, i));
            begun = i + 1;
        }
    }

    private void addField(String text) {
        if (!open.isEmpty() && !text.isBlank()) {
            fields.add(new Field(open.get(open.size() - 1), text.trim()));
        }
    }

    private void openAt(int i) {
        String head = code.substring(begun, i).trim();
        Matcher type = TYPE.matcher(head);
        if (type.find()) {
            open.add(type.group(1));
            types.add(type.group(1));
            typeHeads.add(head.replaceAll("(?s).*;", "").trim());
            begun = i + 1;
        } else if (head.contains("(") && !head.contains("=")) {
            bodyBegun = i;
            bracketsInBody = 1;
        } else {
            addField(head);
            open.add("a row of values, or a block");
            begun = i + 1;
        }
    }

    static List<Call> callsIn(String body) {
        List<Call> calls = new ArrayList<>();
        Matcher matcher = CALL.matcher(body);
        while (matcher.find()) {
            boolean isMade = matcher.group(1) != null;
            if (!isMade && !WORDS_AHEAD_OF_BRACKETS.contains(matcher.group(3))) {
                calls.add(new Call(matcher.group(2) == null ? "" : matcher.group(2), matcher.group(3)));
            }
        }
        return calls;
    }

    /** The method that a call means; null if it is none of the class. */
    Method meantBy(Call call, Method caller) {
        if (!call.receiver.isEmpty()) {
            return find(typeOf(call.receiver, caller), call.name);
        }
        Method own = find(caller.type, call.name);
        return own != null ? own : find(types.get(0), call.name);
    }

    private Method find(String type, String name) {
        for (Method method : methods) {
            if (method.type.equals(type) && method.name.equals(name)) {
                return method;
            }
        }
        return null;
    }

    /** The type of a parameter, or else of a field. */
    private String typeOf(String name, Method method) {
        Pattern declared = Pattern.compile("(\\w+) " + name + "(?: =.*)?$", Pattern.DOTALL);
        String inside = method.head.substring(method.head.indexOf('(') + 1, method.head.lastIndexOf(')'));
        for (String parameter : inside.split(",")) {
            Matcher matcher = declared.matcher(parameter);
            if (matcher.find()) {
                return matcher.group(1);
            }
        }
        for (Field field : fields) {
            Matcher matcher = declared.matcher(field.text);
            if (field.type.equals(method.type) && matcher.find()) {
                return matcher.group(1);
            }
        }
        return name;
    }

    /** What stands between the bracket that opens at a place, or behind it, and the one that closes it. */
    static String bodyFrom(String body, int place) {
        int begin = body.indexOf('{', place);
        int depth = 0;
        for (int i = begin; i >= 0 && i < body.length(); i++) {
            depth += body.charAt(i) == '{' ? 1 : body.charAt(i) == '}' ? -1 : 0;
            if (depth == 0) {
                return body.substring(begin + 1, i);
            }
        }
        return "";
    }
}
