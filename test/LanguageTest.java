import java.lang.management.ManagementFactory;
import java.lang.reflect.Constructor;
import java.lang.reflect.Field;
import java.lang.reflect.Method;
import java.lang.reflect.Modifier;
import java.nio.charset.StandardCharsets;
import java.nio.file.Files;
import java.nio.file.Path;
import java.util.ArrayList;
import java.util.List;
import java.util.Set;
import java.util.TreeSet;
import java.util.regex.Matcher;
import java.util.regex.Pattern;

/** Those rules of LANGUAGE.md that can be seen from the program's text, its classes, and what a call makes. */
public final class LanguageTest {
    private static final String FACE =
        "feed/1 name/0 of/2 folder/2 list/2 journal/3 at/2 expire/1 deal/1 put/4 prepare/1 commit/1 abandon/1 "
        + "repack/0 step/2 crash/0 told/2 state/1 after/3 orders/1 could/3 see/2 fits/2 odds/4 mean/1 plan/2 ends/1 "
        + "book/2 looked/0 judge/2 image/0 undo/0 taken/2 count/1 tape/3 item/3 read/2 shift/5";
    private static final String CONSTANTS = "NONE BAD STATE FULL NO";
    private static final Set<String> LIBRARY = Set.of(
        "System.arraycopy", "Integer.bitCount", "Math.min", "Math.max", "Math.abs", "Long.MIN_VALUE");
    private static final Pattern FORBIDDEN = Pattern.compile(
        "\\b(import|package|throw|throws|try|catch|synchronized|assert|native|volatile|transient|record|enum"
        + "|new\\s+Integer|equals|hashCode|getClass|Object|NaN|strictfp)\\b(?=\\s*[\\w({;.])|->|::|@|\\?\\s*extends");
    private static final Pattern HEADER = Pattern.compile(
        "^( {4}| {8})((public|private|static|final) )*[\\w\\[\\]]+( \\w+)?\\((.*)\\) \\{$");

    private static int wrong;

    private static void mustBe(int rule, String what, boolean so) {
        if (!so) {
            wrong++;
            System.out.println("rule " + rule + ": " + what);
        }
    }

    private static void face() {
        Class<?> program = NameRevisions.class;
        mustBe(1, "the class is public and final",
            Modifier.isPublic(program.getModifiers()) && Modifier.isFinal(program.getModifiers()));
        Set<String> face = new TreeSet<>(List.of(FACE.split(" ")));
        Set<String> names = new TreeSet<>();
        face.forEach(it -> names.add(it.substring(0, it.indexOf('/'))));
        Set<String> found = new TreeSet<>();
        for (Method method : program.getDeclaredMethods()) {
            if (Modifier.isPublic(method.getModifiers())) {
                found.add(method.getName() + "/" + method.getParameterCount());
            } else if (!method.isSynthetic()) {
                mustBe(1, method + " is private", Modifier.isPrivate(method.getModifiers()));
                mustBe(1, method + " has a name of its own", !names.contains(method.getName()));
            }
        }
        mustBe(1, "the public methods are the face: " + found, found.equals(face));
        Set<String> constants = new TreeSet<>();
        for (Field field : program.getDeclaredFields()) {
            if (!Modifier.isPrivate(field.getModifiers())) {
                constants.add(field.getName());
            }
        }
        mustBe(1, "the public fields are the face: " + constants,
            constants.equals(new TreeSet<>(List.of(CONSTANTS.split(" ")))));
        Constructor<?>[] made = program.getDeclaredConstructors();
        mustBe(1, "one public constructor", made.length == 1 && Modifier.isPublic(made[0].getModifiers()));
        for (Class<?> inside : program.getDeclaredClasses()) {
            mustBe(2, inside + " is static and not public",
                Modifier.isStatic(inside.getModifiers()) && !Modifier.isPublic(inside.getModifiers()));
            for (Method method : inside.getDeclaredMethods()) {
                mustBe(1, method + " has a name of its own", !names.contains(method.getName()));
            }
        }
        mustBe(11, "at most twelve classes", program.getDeclaredClasses().length < 12);
    }

    private static void fields() {
        List<Class<?>> classes = new ArrayList<>(List.of(NameRevisions.class.getDeclaredClasses()));
        classes.add(NameRevisions.class);
        for (Class<?> it : classes) {
            int own = 0;
            for (Field field : it.getDeclaredFields()) {
                if (!Modifier.isStatic(field.getModifiers())) {
                    own++;
                } else {
                    mustBe(5, field + " is final", Modifier.isFinal(field.getModifiers()));
                }
            }
            mustBe(11, it + " has at most twenty fields", own <= 20);
        }
    }

    private static void words(List<String> lines) {
        Pattern use = Pattern.compile("\\b([A-Z]\\w*[a-z]\\w*)\\.(\\w+)");
        for (int n = 0; n < lines.size(); n++) {
            String line = lines.get(n).replaceAll("/\\*\\*.*|//.*", "");
            Matcher bad = FORBIDDEN.matcher(line);
            mustBe(6, "line " + (n + 1) + ": " + line, !bad.find());
            Matcher used = use.matcher(line);
            while (used.find()) {
                mustBe(4, "line " + (n + 1) + ": " + used.group(), LIBRARY.contains(used.group()));
            }
            boolean plain = lines.get(n).chars().allMatch(sign -> sign >= ' ' && sign < 127);
            mustBe(3, "line " + (n + 1) + " has plain signs", plain);
        }
    }

    private static void methods(List<String> lines) {
        int found = 0;
        for (int n = 0; n < lines.size(); n++) {
            Matcher header = HEADER.matcher(lines.get(n));
            if (header.matches()) {
                found++;
                int end = n;
                while (!lines.get(end).equals(header.group(1) + "}")) {
                    end++;
                }
                mustBe(11, "line " + (n + 1) + ": at most sixty lines", end - n < 60);
                mustBe(11, "line " + (n + 1) + ": at most seven parameters", header.group(5).split(",").length <= 7);
            }
        }
        mustBe(11, "methods are found at all", found > FACE.split(" ").length);
    }

    /** A whole life of the dearest calls: they use again what the constructor made. */
    private static void made() {
        var thread = (com.sun.management.ThreadMXBean) ManagementFactory.getThreadMXBean();
        NameRevisions x = Check.with("a", "b", "a/b", "a/c", "c", "d");
        life(x, 6);
        long before = thread.getCurrentThreadAllocatedBytes();
        life(x, 6);
        long bytes = thread.getCurrentThreadAllocatedBytes() - before;
        mustBe(12, "calls make next to nothing, but made " + bytes + " bytes", bytes < 4096);
    }

    private static void life(NameRevisions x, int rounds) {
        for (int round = 0; round < rounds; round++) {
            for (int d = 0; d < 4; d++) {
                x.deal(1);
                x.put(d, d, -1, round + 1);
            }
            x.image();
            x.state(6);
            x.orders(15);
            x.could(15, 0, 1);
            x.odds(15, 0, 1, 0);
            x.fits(15, 1);
            x.prepare(0);
            x.commit(0);
            x.repack();
            x.plan(0, 0);
            x.ends(0);
            x.after(0, 9, 0);
            x.step(0, 20);
            x.step(1, 20);
            x.tape(0, 2, 60);
            x.shift(0, 0, 0, 1, 9);
            x.judge(0, 0);
            x.crash();
            x.undo();
            x.crash();
        }
    }

    public static void main(String[] args) throws Exception {
        Path program = Path.of(args.length > 0 ? args[0] : "src/main/java/NameRevisions.java");
        List<String> lines = Files.readAllLines(program, StandardCharsets.ISO_8859_1);
        face();
        fields();
        words(lines);
        methods(lines);
        made();
        if (wrong != 0) {
            System.exit(1);
        }
    }
}
