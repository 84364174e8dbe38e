import java.util.ArrayList;
import java.util.Arrays;
import java.util.List;
import java.util.Map;
import java.util.Set;

/**
 * Plays calls, told as lines of words, on a new object, and holds each answer against the one that is due. Of each
 * call that asks, and of each that is refused, it sees to it that nothing is changed: by two more objects, one with
 * all that was changed so far, one with that and this call.
 *
 * "put 0 1 -1 5 = FULL" is a call and its answer; "of {0 1} 2 = 0" are two, and "3* feed 97" three. The words for
 * several calls at once are those of told().
 */
final class Script {
    private static final int MOST_CALLS = 512;
    private static final Set<String> ASKING = Set.of(
        "of", "folder", "list", "journal", "at", "told", "state", "after", "orders", "could", "fits", "odds", "mean",
        "ends", "looked", "judge", "taken", "count", "read");
    private static final Map<String, Long> NUMBERS = Map.ofEntries(
        Map.entry("NONE", -1L), Map.entry("BAD", -2L), Map.entry("STATE", -3L), Map.entry("FULL", -4L),
        Map.entry("NOTHING", -11L), Map.entry("CAST", -12L), Map.entry("PLACE", -13L), Map.entry("SIZE", -14L),
        Map.entry("MIN", (long) Integer.MIN_VALUE), Map.entry("MAX", (long) Integer.MAX_VALUE),
        Map.entry("NO", Long.MIN_VALUE), Map.entry("LONGEST", Long.MAX_VALUE));

    private final NameRevisions x = new NameRevisions();
    private final List<Call> changes = new ArrayList<>();
    private final List<String> faults = new ArrayList<>();
    private int calls;
    // What is seen behind the changes; null: not looked at yet.
    private List<String> seen;

    /** What isn't as it is due, when the lines have been played. */
    static List<String> faultsOf(String... lines) {
        Script script = new Script();
        for (String line : lines) {
            script.play(line);
        }
        if (script.calls > MOST_CALLS) {
            script.faults.add(script.calls + " calls, " + MOST_CALLS + " are promised");
        }
        return script.faults;
    }

    private void play(String line) {
        int times = line.indexOf("* ");
        int open = line.indexOf('{');
        int close = line.indexOf('}');
        if (times > 0) {
            for (int i = 0; i < Integer.parseInt(line.substring(0, times)); i++) {
                play(line.substring(times + 2));
            }
        } else if (open >= 0) {
            for (String one : line.substring(open + 1, close).split(" ")) {
                play(line.substring(0, open) + one + line.substring(close + 1));
            }
        } else {
            String[] sides = line.split(" = ");
            told(sides[0].split(" "), sides.length > 1 ? number(sides[1]) : null);
        }
    }

    private void told(String[] words, Long due) {
        switch (words[0]) {
            case "text": feed(words[1]); break;
            case "spell": feed(words[1]); call(due, "name"); break;
            case "names": Arrays.stream(words).skip(1).forEach(this::nameThatComes); break;
            case "open": open(words, due); break;
            case "ready": ready(words, due); break;
            case "going": going(words, due); break;
            case "do": whole(words); break;
            case "store": whole("do", "1", words[1] + ":-1:" + words[2]); break;
            case "wrong": wrong(words, due); break;
            case "pack": call(call(null, "repack") + 1, "step", 1, 20); break;
            case "row": row(words); break;
            default: call(due, words[0], numbers(words)); break;
        }
    }

    private void feed(String text) {
        for (char sign : text.toCharArray()) {
            call(null, "feed", sign);
        }
    }

    private void nameThatComes(String text) {
        feed(text);
        if (call(null, "name") < 0) {
            faults.add(text + " did not come as a name");
        }
    }

    /** A deal of a kind, with rows of three numbers each: name, old, new. */
    private long open(String[] words, Long due) {
        long deal = call(due, "deal", number(words[1]));
        for (int r = 2; r < words.length; r++) {
            String[] row = words[r].split(":");
            call((long) r - 1, "put", deal, number(row[0]), number(row[1]), number(row[2]));
        }
        return deal;
    }

    private long ready(String[] words, Long due) {
        long deal = open(words, due);
        call(0L, "prepare", deal);
        return deal;
    }

    private void going(String[] words, Long due) {
        call((long) words.length, "commit", ready(words, due));
    }

    private void whole(String... words) {
        going(words, null);
        call((long) words.length, "step", 0, 20);
    }

    /** What is wrong of a deal, and what that makes of preparing it; the deal goes then. */
    private void wrong(String[] words, Long due) {
        long deal = open(words, null);
        call(due, "told", deal, 3);
        call(due == 0 ? 0 : -10 - due, "prepare", deal);
        call(due == 0 ? 1L : 0L, "told", deal, 2);
        call(words.length - 2L, "abandon", deal);
    }

    /** A tape of a sort, and its items. */
    private void row(String[] words) {
        call(1L, "tape", number(words[1]), number(words[2]), words.length - 3);
        for (int i = 3; i < words.length; i++) {
            call(1L, "item", number(words[1]), i - 3, number(words[i]));
        }
    }

    private static long number(String word) {
        return NUMBERS.containsKey(word) ? NUMBERS.get(word) : Long.parseLong(word);
    }

    private static long[] numbers(String[] words) {
        return Arrays.stream(words).skip(1).mapToLong(Script::number).toArray();
    }

    private long call(Long due, String name, long... numbers) {
        Call call = new Call(name, numbers);
        calls++;
        long answer = call.on(x);
        if (due != null && answer != due) {
            faults.add(call + " answered " + answer + ", due is " + due);
        }
        if (ASKING.contains(name)) {
            mustChangeNothing(call, changes);
        } else if (answer >= 0) {
            changes.add(call);
            seen = null;
        } else if (name.equals("name")) {
            // The text is empty then all the same.
            List<Call> fed = new ArrayList<>(changes);
            forgetText();
            mustChangeNothing(call, fed);
        } else {
            mustChangeNothing(call, changes);
        }
        return answer;
    }

    private void forgetText() {
        int last = changes.size();
        while (last > 0 && !changes.get(last - 1).is("name")) {
            last--;
        }
        for (int i = changes.size() - 1; i >= last; i--) {
            if (changes.get(i).is("feed")) {
                changes.remove(i);
                seen = null;
            }
        }
    }

    /** Behind these calls and this one all must look as it does behind the changes. */
    private void mustChangeNothing(Call call, List<Call> ahead) {
        List<Call> with = new ArrayList<>(ahead);
        with.add(call);
        int room = Math.max(0, MOST_CALLS - with.size());
        if (seen == null || ahead != changes) {
            seen = Look.behind(changes, room);
        }
        List<String> then = Look.behind(with, room);
        for (int i = 0; i < then.size(); i++) {
            if (!then.get(i).equals(seen.get(i))) {
                faults.add(call + " changed something: " + then.get(i) + ", and not " + seen.get(i));
                break;
            }
        }
        if (ahead != changes) {
            // It was looked at by fewer calls than there is room for behind the changes alone.
            seen = null;
        }
    }
}
