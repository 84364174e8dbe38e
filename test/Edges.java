import java.io.IOException;
import java.nio.charset.StandardCharsets;
import java.nio.file.Files;
import java.nio.file.Path;
import java.util.LinkedHashMap;
import java.util.List;
import java.util.Map;
import java.util.regex.Matcher;
import java.util.regex.Pattern;

/**
 * The document's sentences, each with calls that would be answered otherwise if it were broken. A sentence is quoted
 * as it stands in the document; at the end each word of the terms and of the promises must have been quoted.
 */
final class Edges {
    private static final int PROMISES = 39;

    private final String document;
    private final boolean[] quoted;
    private final Map<String, int[]> parts = new LinkedHashMap<>();
    private String part;
    private int wrong;

    Edges(Path path) throws IOException {
        document = Files.readString(path, StandardCharsets.UTF_8);
        quoted = new boolean[document.length()];
        addPart("What it is", "\nAn object is", "\n## ");
        for (int p = 1; p <= 3; p++) {
            addPart("Terms " + p, "==== " + p, p < 3 ? "==== " + (p + 1) : "\nAnswers:");
        }
        addPart("Answers", "\nAnswers:", "\nAhead of the calls");
        for (int p = 1; p <= PROMISES; p++) {
            addPart("Promise " + p, "\n## Promise " + p + ": ", "\n## ");
        }
    }

    private void addPart(String name, String begin, String end) {
        int from = document.indexOf(begin);
        int to = from < 0 ? -1 : document.indexOf(end, from + begin.length());
        if (to < 0) {
            complain("the document has no part " + name);
            return;
        }
        parts.put(name, new int[] {from + begin.length(), to});
    }

    private void complain(String words) {
        wrong++;
        System.out.println(words);
    }

    /** The part of the document that the sentences to come stand in. */
    void in(String name) {
        part = name;
    }

    /** A sentence of the document, and the lines of a script that hold it. */
    void edge(String sentence, String... lines) {
        int[] bounds = parts.getOrDefault(part, new int[] {0, 0});
        int from = document.substring(0, bounds[1]).indexOf(sentence, bounds[0]);
        if (from < 0) {
            complain(part + " does not say: " + sentence);
        }
        for (int i = from; i >= 0 && i < from + sentence.length(); i++) {
            quoted[i] = true;
        }
        List<String> faults = Script.faultsOf(lines);
        for (String fault : faults) {
            complain(part + ", \"" + sentence + "\": " + fault);
        }
    }

    /** Ends the test, with exit code 1 if something was wrong, or a word was quoted by no sentence. */
    void end() {
        for (Map.Entry<String, int[]> it : parts.entrySet()) {
            int from = it.getValue()[0];
            // What is set as code is a signature, or how the terms are set; a title stands ahead of that.
            if (it.getKey().startsWith("Promise")) {
                from = document.indexOf("\n", from);
            }
            String text = document.substring(from, it.getValue()[1]);
            Matcher word = Pattern.compile("`[^`\n]*\\)`|```text|```|\\w+").matcher(text);
            while (word.find()) {
                if (!word.group().startsWith("`") && !quoted[from + word.start()]) {
                    complain(it.getKey() + ", no test quotes: " + text.substring(word.start()).split("\n")[0]);
                    break;
                }
            }
        }
        if (wrong != 0) {
            System.exit(1);
        }
    }
}
