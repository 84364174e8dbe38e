import java.lang.reflect.Method;
import java.util.ArrayList;
import java.util.List;
import java.util.TreeMap;

/** Long runs of calls, always the same ones, on the program and on Model: each answer must be the same. */
public final class ModelTest {
    private static final int RUNS = 6000, CALLS = 512;
    private static final String[] TEXTS = {
        "a", "b", "a/b", "a/b/c", "a/c", "ab", "ab/c", "b/a", "a/bb", "aa/b/c", "b/a/f", "f", "c", "c/d", "ab/c/de",
        "a/b/cd", "aa/bb/cc", "aa/bb", "", "a/", "/a", "abc", "a//b", "a/b/c/", "a/b/c/d", "g", "A", "a/bcd", "a`"};
    private static final int[] EDGES = {
        Integer.MIN_VALUE, Integer.MAX_VALUE, -2, -1, 0, 1, 4, 5, 6, 11, 12, 15, 16, 59, 60, 61, 100, 998, 999, 1000};

    private long seed;
    private final TreeMap<String, Method> ofProgram = new TreeMap<>();
    private final TreeMap<String, Method> ofModel = new TreeMap<>();
    private final List<String> names = new ArrayList<>();
    private final List<String> told = new ArrayList<>();
    private NameRevisions program;
    private Model model;
    private int calls;
    private boolean wrong;

    private ModelTest() throws Exception {
        for (Method method : NameRevisions.class.getDeclaredMethods()) {
            if (java.lang.reflect.Modifier.isPublic(method.getModifiers())) {
                Method same = Model.class.getDeclaredMethod(method.getName(), method.getParameterTypes());
                if (same.getReturnType() != method.getReturnType()) {
                    throw new IllegalStateException(method + " answers another type than " + same);
                }
                same.setAccessible(true);
                ofProgram.put(method.getName(), method);
                ofModel.put(method.getName(), same);
            }
        }
        names.addAll(ofProgram.keySet());
    }

    /** A number from 0 to below the bound; the same ones in each run of the test. */
    private int any(int bound) {
        seed = seed * 6364136223846793005L + 1442695040888963407L;
        return (int) ((seed >>> 33) % bound);
    }

    private boolean oneIn(int many) {
        return any(many) == 0;
    }

    private void call(String name, long... numbers) throws Exception {
        if (calls >= CALLS || wrong) {
            return;
        }
        calls++;
        Method method = ofProgram.get(name);
        Class<?>[] types = method.getParameterTypes();
        Object[] values = new Object[types.length];
        StringBuilder words = new StringBuilder(name).append('(');
        for (int i = 0; i < values.length; i++) {
            values[i] = types[i] == long.class ? (Object) numbers[i] : (Object) (int) numbers[i];
            words.append(i == 0 ? "" : ", ").append(values[i]);
        }
        Object got = method.invoke(program, values);
        Object due = ofModel.get(name).invoke(model, values);
        told.add(words + ") = " + got);
        if (!got.equals(due)) {
            wrong = true;
            System.out.println(String.join("\n", told) + "  due is " + due);
        }
    }

    private int aName() {
        return oneIn(25) ? EDGES[any(EDGES.length)] : oneIn(8) ? any(13) : any(6);
    }

    private int aDeal() {
        return oneIn(30) ? EDGES[any(EDGES.length)] : any(4);
    }

    private int aSet() {
        int set = oneIn(40) ? EDGES[any(EDGES.length)] : any(16);
        // Half the time of deals that there are, so that orders are often asked for at all.
        return oneIn(2) ? set & model.state(5) : set;
    }

    private int aRevision() {
        return oneIn(25) ? EDGES[any(EDGES.length)] : oneIn(3) ? 0 : 1 + any(4);
    }

    private int anyOf(int most) {
        return oneIn(25) ? EDGES[any(EDGES.length)] : any(most + 1);
    }

    private void feedName() throws Exception {
        String text = oneIn(4) ? TEXTS[any(TEXTS.length)] : TEXTS[any(9)];
        for (char sign : text.toCharArray()) {
            call("feed", sign);
        }
        call("name");
    }

    private void makeDeal() throws Exception {
        call("deal", oneIn(20) ? anyOf(4) : any(4));
        int deal = any(4);
        int rows = any(5);
        for (int r = 0; r < rows; r++) {
            putRow(deal);
        }
        if (oneIn(2)) {
            call("prepare", deal);
        }
        if (oneIn(3)) {
            call("commit", deal);
        }
    }

    private void putRow(int deal) throws Exception {
        int name = aName();
        int stored = model.of(name, 1);
        int old = oneIn(6) ? aRevision() : oneIn(3) ? -1 : stored;
        call("put", deal, name, old, aRevision());
    }

    private void fillTape() throws Exception {
        int tape = any(6);
        call("tape", tape, oneIn(2) ? 2 : anyOf(4), 12 + any(4));
        int from = any(3);
        for (int n = 0; n < model.count(0) - any(2); n++) {
            call("item", tape, from + n, oneIn(12) ? any(3) : model.of(n, 0));
        }
        call("judge", tape, from);
    }

    private void finish() throws Exception {
        call("step", 0, oneIn(3) ? any(6) : 20);
        if (oneIn(3)) {
            call("repack");
        }
        call("step", 1, oneIn(3) ? any(3) : any(21));
    }

    private void askAll() throws Exception {
        for (int n = 0; n < model.count(0); n++) {
            for (int what = 0; what < 4; what++) {
                call("of", n, what);
            }
            call("ends", n);
            call("after", any(2), any(10), n);
            call("at", n, any(model.state(0) + 2));
        }
        for (int what = 0; what < 7; what++) {
            call("state", what);
        }
    }

    private void anyCall() throws Exception {
        String name = names.get(any(names.size()));
        long[] numbers = new long[5];
        for (int i = 0; i < 5; i++) {
            numbers[i] = anyOf(6);
        }
        switch (name) {
            case "feed": numbers[0] = oneIn(3) ? any(140) - 5 : 'a' + any(7); break;
            case "of": case "journal": case "folder": case "at": case "ends": numbers[0] = aName(); break;
            case "list": numbers[0] = oneIn(2) ? -1 : aName(); break;
            case "expire": numbers[0] = oneIn(4) ? any(model.state(0) + 2) : 0; break;
            case "put": numbers[0] = aDeal(); numbers[1] = aName(); numbers[2] = aRevision() - any(2);
                numbers[3] = aRevision(); break;
            case "prepare": case "commit": case "abandon": case "told": numbers[0] = aDeal(); break;
            case "step": numbers[0] = any(2); numbers[1] = anyOf(21); break;
            case "after": numbers[0] = any(2); numbers[1] = anyOf(10); numbers[2] = aName(); break;
            case "orders": case "fits": numbers[0] = aSet(); numbers[1] = anyOf(1); break;
            case "could": case "odds": numbers[0] = aSet(); numbers[1] = aName(); numbers[2] = aRevision();
                numbers[3] = anyOf(1); break;
            case "see": case "book": numbers[0] = oneIn(12) ? -1 : aName(); numbers[1] = seenOf(numbers[0]); break;
            case "plan": numbers[0] = oneIn(12) ? -1 : anyOf(3); numbers[1] = aName(); break;
            case "tape": numbers[0] = anyOf(5); numbers[1] = anyOf(5) - 1; numbers[2] = anyOf(14); break;
            case "item": numbers[0] = anyOf(5); numbers[1] = anyOf(14); numbers[2] = aLong(); break;
            case "read": numbers[0] = anyOf(5); numbers[1] = anyOf(14); break;
            case "shift": numbers[0] = anyOf(5); numbers[2] = oneIn(2) ? numbers[0] : anyOf(5); break;
            case "crash": case "undo": if (!oneIn(8)) return; break;
            default: break;
        }
        call(name, numbers);
    }

    private int seenOf(long name) {
        int value = model.of((int) name, 0);
        return oneIn(4) || value < 0 ? aRevision() : value;
    }

    private long aLong() {
        long low = EDGES[any(EDGES.length)];
        return oneIn(2) ? low : low << any(60) ^ any(70000);
    }

    private void run(int number) throws Exception {
        seed = number;
        told.clear();
        calls = 0;
        program = new NameRevisions();
        model = new Model();
        int first = any(8);
        for (int n = 0; n < first; n++) {
            feedName();
        }
        while (calls < CALLS && !wrong) {
            switch (any(20)) {
                case 0: if (oneIn(2)) feedName(); break;
                case 1: case 2: case 3: makeDeal(); break;
                case 4: case 5: finish(); break;
                case 6: if (oneIn(3)) fillTape(); break;
                case 7: if (oneIn(4)) askAll(); break;
                default: anyCall(); break;
            }
        }
    }

    public static void main(String[] args) throws Exception {
        ModelTest test = new ModelTest();
        int runs = args.length > 1 ? Integer.parseInt(args[1]) : RUNS;
        for (int number = 1; number <= runs && !test.wrong; number++) {
            test.run(number);
        }
        if (test.wrong) {
            System.exit(1);
        }
    }
}
