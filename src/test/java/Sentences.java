import java.io.IOException;
import java.nio.file.Files;
import java.nio.file.Path;
import java.util.ArrayList;
import java.util.List;
import java.util.function.Consumer;

/** Sentences of the document, each with a test of its own on a new object; what no test quotes is told at the end. */
final class Sentences {
    private static final int PROMISES = 67;
    private static final int TERMS = 0;

    /* The terms, then each promise by its number, with one blank between any two words. */
    private final List<String> texts = new ArrayList<>();
    private final List<boolean[]> quoted = new ArrayList<>();
    private final Sea sea = new Sea("sentences");

    Sentences(Path document) throws IOException {
        String all = Files.readString(document).replaceAll("(?s)```java.*?```", "").replaceAll("```(text)?", "").replaceAll("\\s+", " ");
        int from = all.indexOf("An object is used");
        for (int p = 1; p <= PROMISES; p++) {
            from = add(all, from, "## Promise " + p + ":");
        }
        add(all, from, "## Not promised");
    }

    private int add(String all, int from, String heading) {
        int to = all.indexOf(heading);
        texts.add(all.substring(from, to));
        quoted.add(new boolean[to - from]);
        // The line with the call's own face is no sentence.
        int face = all.indexOf("`: ", to);
        return face < 0 ? to : face + 3;
    }

    void term(String quote, Consumer<Sea> test) {
        holds(TERMS, quote, test);
    }

    void promise(int number, String quote, Consumer<Sea> test) {
        holds(number, quote, test);
    }

    private void holds(int where, String quote, Consumer<Sea> test) {
        int at = texts.get(where).indexOf(quote);
        sea.due("the document has in " + where + ": " + quote, at >= 0, true);
        for (int i = Math.max(0, at); i < at + quote.length(); i++) {
            quoted.get(where)[i] = true;
        }
        test.accept(new Sea((where == TERMS ? "terms" : "promise " + where) + " \"" + quote + "\""));
    }

    /** The document puts its boundary cases in brackets, for the most part: each of these must be quoted by a test. */
    void allQuoted() {
        for (int where = 0; where < texts.size(); where++) {
            String text = texts.get(where);
            int letters = 0;
            for (int i = 0; i < text.length(); i++) {
                letters += quoted.get(where)[i] ? 1 : 0;
                if ("()".indexOf(text.charAt(i)) >= 0) {
                    String near = text.substring(Math.max(0, i - 30), Math.min(text.length(), i + 30));
                    sea.due("quoted in " + where + ": .." + near + "..", quoted.get(where)[i], true);
                }
            }
            sea.due("a test of " + where, letters > 0, true);
        }
    }
}
