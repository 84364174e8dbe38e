import java.io.IOException;
import java.lang.reflect.Method;
import java.lang.reflect.Modifier;
import java.nio.charset.StandardCharsets;
import java.nio.file.DirectoryStream;
import java.nio.file.Files;
import java.nio.file.Path;
import java.util.HashMap;
import java.util.List;
import java.util.Map;
import java.util.regex.Matcher;
import java.util.regex.Pattern;

/** README.md's example answers as it says there, and the page leaves out no call of the face and no file of tests. */
public final class ReadmeTest {
    private static final String MAKING = "NameRevisions store = new NameRevisions();";
    private static final Pattern CALL = Pattern.compile(
        "(?:(?:int|long) (\\w+) = )?store\\.(\\w+)\\((.*?)\\); *// (-?\\d+|[A-Z]+)(?:[:, ].*)?");
    private static final Map<String, Long> ANSWERS = Map.of(
        "NONE", -1L, "BAD", -2L, "STATE", -3L, "FULL", -4L, "NO", Long.MIN_VALUE);

    private static int wrong;

    private static void complain(String words) {
        wrong++;
        System.out.println("README.md: " + words);
    }

    /** The lines of the first block of a language; none, if there is no such block. */
    private static List<String> block(String page, String language) {
        Matcher block = Pattern.compile("```" + language + "\n(.*?)```", Pattern.DOTALL).matcher(page);
        return block.find() ? block.group(1).lines().toList() : List.of();
    }

    private static void playExample(List<String> lines) {
        NameRevisions store = new NameRevisions();
        Map<String, Long> variables = new HashMap<>();
        int calls = 0;
        for (String line : lines) {
            Matcher call = CALL.matcher(line);
            if (call.matches()) {
                calls++;
                long got = new Call(call.group(2), numbers(call.group(3), variables)).on(store);
                String due = call.group(4);
                if (got != (ANSWERS.containsKey(due) ? ANSWERS.get(due) : Long.parseLong(due))) {
                    complain(line + " answered " + got);
                }
                variables.put(call.group(1), got);
            } else if (!line.isEmpty() && !line.startsWith("//") && !line.equals(MAKING)) {
                complain("not a call with its answer: " + line);
            }
        }
        if (calls == 0) {
            complain("no call in the example");
        }
    }

    private static long[] numbers(String words, Map<String, Long> variables) {
        if (words.isEmpty()) {
            return new long[0];
        }
        String[] each = words.split(", ");
        long[] numbers = new long[each.length];
        for (int i = 0; i < each.length; i++) {
            if (each[i].startsWith("'")) {
                numbers[i] = each[i].charAt(1);
            } else if (variables.containsKey(each[i])) {
                numbers[i] = variables.get(each[i]);
            } else {
                numbers[i] = Long.parseLong(each[i]);
            }
        }
        return numbers;
    }

    private static void namesEachCall(String page) {
        for (Method method : NameRevisions.class.getDeclaredMethods()) {
            if (Modifier.isPublic(method.getModifiers()) && !page.contains("`" + method.getName() + "`")) {
                complain("says nothing of the call " + method.getName());
            }
        }
    }

    private static void namesEachTest(String page) throws IOException {
        try (DirectoryStream<Path> files = Files.newDirectoryStream(Path.of("test"), "*.java")) {
            for (Path file : files) {
                if (!page.contains("`test/" + file.getFileName() + "`")) {
                    complain("says nothing of test/" + file.getFileName());
                }
            }
        }
        Matcher named = Pattern.compile("`(test/\\w+\\.java)`").matcher(page);
        while (named.find()) {
            if (!Files.exists(Path.of(named.group(1)))) {
                complain("there is no " + named.group(1));
            }
        }
    }

    public static void main(String[] args) throws Exception {
        String page = Files.readString(Path.of("README.md"), StandardCharsets.UTF_8);
        playExample(block(page, "java"));
        namesEachCall(page);
        namesEachTest(page);
        if (wrong != 0) {
            System.exit(1);
        }
    }
}
