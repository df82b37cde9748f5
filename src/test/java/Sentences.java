import java.io.IOException;
import java.nio.file.Files;
import java.nio.file.Path;
import java.util.ArrayList;
import java.util.List;
import java.util.TreeSet;

/** Tests by the document's sentences: each test quotes one, and no sentence that asks for something goes unquoted. */
final class Sentences {
    /** The promise that stands for the section "Terms". */
    static final int TERMS = 0;
    private static final Path DOCUMENT = Path.of("../shared/DOC.md");
    private static final String UNTOUCHED = Probe.of(Start.MIXED.make());

    interface OneCall {
        void on(Seepwork x, int value);
    }

    private final List<String> lines;
    private final TreeSet<String> quoted = new TreeSet<>();

    Sentences() {
        lines = linesOfDocument();
    }

    static List<String> linesOfDocument() {
        try {
            return Files.readAllLines(DOCUMENT);
        } catch (IOException e) {
            System.out.println("the document is not there, so the quotes are not looked up");
            return new ArrayList<>();
        }
    }

    /** Tests a sentence, or a part of one. */
    void of(int promise, String sentence, Due.Call test) {
        quoted.add(promise + ": " + sentence);
        Due.at("promise " + promise + ", \"" + sentence + "\": ");
        if (!lines.isEmpty() && !textOf(promise).contains(sentence)) {
            Due.tell("the document does not say so");
        }
        try {
            test.run();
        } catch (RuntimeException e) {
            Due.tell("the test ended by " + e);
        }
        Due.at("");
    }

    /** An argument in its range is taken, and outside it refused. */
    void range(int promise, String taken, String refused, int least, int most, OneCall call) {
        of(promise, taken, () -> takes(least, most, call));
        of(promise, refused, () -> refuses(IllegalArgumentException.class, least, most, call));
    }

    /** A SITE, a BOND or a FIBRE that is there is taken, and another one refused. */
    void index(int promise, String taken, String refused, int count, OneCall call) {
        of(promise, taken, () -> takes(0, count - 1, call));
        of(promise, refused, () -> refuses(IndexOutOfBoundsException.class, 0, count - 1, call));
    }

    static void takes(int least, int most, OneCall call) {
        for (int value : new TreeSet<>(List.of(least, most))) {
            takesOne(value, call);
        }
        for (int value = least; value <= most; value += 1 + (most - least) / 16) {
            takesOne(value, call);
        }
    }

    private static void takesOne(int value, OneCall call) {
        Seepwork x = new Seepwork();
        Due.isText("the call with " + value + " throws", Due.thrownBy(() -> call.on(x, value)), "nothing");
    }

    static void refuses(Class<? extends RuntimeException> due, int least, int most, OneCall call) {
        for (int value : new int[] {least - 1, most + 1, Integer.MIN_VALUE, Integer.MAX_VALUE}) {
            Seepwork x = Start.MIXED.make();
            Due.isText("the call with " + value + " throws", Due.thrownBy(() -> call.on(x, value)), due.getName());
            Due.isText("the state behind the call with " + value, Probe.of(x), UNTOUCHED);
        }
    }

    /** Ends the test of the promises from one to another one: each of their sentences has to be quoted. */
    void end(int first, int last) {
        for (int promise = first; promise <= last && !lines.isEmpty(); promise++) {
            for (String sentence : promise == TERMS ? sentencesOfTerms() : sentencesOf(promise)) {
                if (!isQuoted(promise, sentence)) {
                    Due.tell("no test quotes promise " + promise + ", \"" + sentence + "\"");
                }
            }
        }
        Due.end();
    }

    private boolean isQuoted(int promise, String sentence) {
        String mark = promise + ": ";
        for (String quote : quoted) {
            if (quote.startsWith(mark) && sentence.contains(quote.substring(mark.length()))) {
                return true;
            }
        }
        return false;
    }

    private String textOf(int promise) {
        StringBuilder text = new StringBuilder();
        String head = promise == TERMS ? "## Terms" : "## Promise " + promise + ":";
        boolean isIn = false;
        for (String line : lines) {
            isIn = line.startsWith("## ") ? line.startsWith(head) : isIn;
            text.append(isIn ? line + "\n" : "");
        }
        return text.toString();
    }

    private List<String> sentencesOf(int promise) {
        String text = textOf(promise);
        int begin = text.indexOf("`: ") + 3;
        List<String> sentences = new ArrayList<>();
        for (String part : text.substring(begin).trim().split(" (?=@(?:param|return|throws) )")) {
            sentences.add(part);
        }
        return sentences;
    }

    /** What the calls are about, the heads, and what stands ahead of the calls ask for nothing. */
    private List<String> sentencesOfTerms() {
        List<String> sentences = new ArrayList<>();
        for (String line : textOf(TERMS).split("\n")) {
            for (String sentence : line.split("(?<=[.]) (?=[A-Z])")) {
                boolean isHead = sentence.startsWith("#") || !sentence.endsWith(".");
                boolean isAim = sentence.startsWith("The calls tell ") || sentence.startsWith("The aim is ");
                if (!isHead && !isAim && !sentence.startsWith("Ahead of the calls ")) {
                    sentences.add(sentence);
                }
            }
        }
        return sentences;
    }
}
