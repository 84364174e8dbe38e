/** Promises 1 to 9: a new object, and the calls of names. */
public final class NamesTest {
    private static void newObject() {
        Check.promise(1);
        NameRevisions x = new NameRevisions();
        for (int what = 0; what < 6; what++) {
            Check.due("count(" + what + ") of a new object", x.count(what), 0);
        }
        for (int what = 0; what < 7; what++) {
            Check.due("state(" + what + ") of a new object", x.state(what), 0);
        }
        Check.due("of(0, 0) of a new object", x.of(0, 0), Check.NONE);
        Check.due("list(-1, 0) of a new object", x.list(-1, 0), Check.NOT_ANY);
        Check.due("read(0, 0) of a new object", x.read(0, 0), NameRevisions.NO);
        Check.due("undo() of a new object", x.undo(), Check.STATE);
        Check.due("NONE", NameRevisions.NONE, -1);
        Check.due("BAD", NameRevisions.BAD, -2);
        Check.due("STATE", NameRevisions.STATE, -3);
        Check.due("FULL", NameRevisions.FULL, -4);
        Check.due("NO", NameRevisions.NO, Long.MIN_VALUE);
    }

    private static void feed() {
        Check.promise(2);
        NameRevisions x = new NameRevisions();
        Check.due("feed(0)", x.feed(0), 1);
        Check.due("feed(127)", x.feed(127), 2);
        Check.due("feed(-1)", x.feed(-1), Check.BAD);
        Check.due("feed(128)", x.feed(128), Check.BAD);
        Check.due("feed(MIN)", x.feed(Check.MIN), Check.BAD);
        Check.due("feed(MAX)", x.feed(Check.MAX), Check.BAD);
        Check.due("count(5) after two signs", x.count(5), 2);
        for (int n = 3; n <= 100; n++) {
            Check.due("feed, sign " + n, x.feed('a'), n);
        }
        Check.due("feed, sign 101", x.feed('a'), Check.FULL);
        Check.due("feed(128), the text being full", x.feed(128), Check.BAD);
        Check.due("count(5), the text being full", x.count(5), 100);
    }

    private static void name() {
        Check.promise(3);
        NameRevisions x = new NameRevisions();
        String[] texts = {
            "", "a", "a/", "a/b", "a/b/", "a/b/c", "a/b/c/", "a/b/c/d", "ff/ff/ff", "abc", "/", "/a", "a//b", "a/bcd",
            "g", "A", "`", "f", "ag", "a.b", "a0", "aa/bb/ccc", "aa/bb/cc/", "a/b/c", "a/b", "a"};
        int[] answers = {
            -10, 0, -12, 1, -14, 2, -15, -15, 3, -12, -10, -10, -12, -14,
            -10, -10, -10, 4, -11, -11, -11, -18, -18, 2, 1, 0};
        for (int i = 0; i < texts.length; i++) {
            Check.due("name() of \"" + texts[i] + "\"", Check.name(x, texts[i]), answers[i]);
            Check.due("count(5) behind name()", x.count(5), 0);
        }
        Check.due("count(0)", x.count(0), 5);
        x.feed('a');
        x.feed(0);
        Check.due("name() of a text with sign 0", x.name(), -11);
        for (int n = 0; n < 100; n++) {
            x.feed('a');
        }
        Check.due("name() of 100 signs", x.name(), -12);
        String[] more = {"b", "c", "d", "e", "aa", "bb", "cc"};
        for (int i = 0; i < more.length; i++) {
            Check.due("name() of \"" + more[i] + "\"", Check.name(x, more[i]), 5 + i);
        }
        Check.due("name() number 13", Check.name(x, "dd"), Check.FULL);
        Check.due("count(5) behind FULL", x.count(5), 0);
        Check.due("name() of one of 12", Check.name(x, "a/b"), 1);
        Check.due("name() of a fault behind 12", Check.name(x, "ddd"), -12);
        Check.due("count(0)", x.count(0), 12);
    }

    private static void of() {
        Check.promise(4);
        NameRevisions x = Check.with("b", "a/c", "a", "a/b/c", "ab", "aa");
        Check.store(x, 0, 5);
        Check.pack(x);
        Check.store(x, 0, 9);
        Check.store(x, 4, 7);
        int deal = Check.committing(x, Check.FORCED, 0, -1, 3, 1, -1, 4);
        dueOf(x, "ahead of the record", 0, 9, 9, 9, 5, 1, 2, deal, 5);
        x.step(0, 1);
        dueOf(x, "the record written", 0, 3, 9, 9, 5, 1, 2, deal, 5);
        dueOf(x, "the record written", 1, 4, 0, 0, 0, 2, 0, deal, 2);
        dueOf(x, "the record written", 4, 7, 7, 7, 0, 1, 1, -5, 4);
        x.step(0, 1);
        dueOf(x, "one applied", 0, 3, 3, 3, 5, 1, 3, deal, 5);
        x.step(0, 2);
        dueOf(x, "done", 0, 3, 3, 3, 5, 1, 3, -5, 5);
        dueOf(x, "never stored", 2, 0, 0, 0, 0, 1, 0, -5, 0);
        dueOf(x, "never stored", 3, 0, 0, 0, 0, 3, 0, -5, 1);
        Check.due("place of aa", x.of(5, 7), 3);
        int open = Check.deal(x, Check.PLAIN, 2, -1, 1);
        Check.due("locked by one that is open", x.of(2, 6), -5);
        x.prepare(open);
        Check.due("locked by one that is prepared", x.of(2, 6), -5);
        x.abandon(open);
        int ready = Check.prepared(x, Check.PLAIN, 4, 7, 8);
        Check.due("locked by one that is prepared", x.of(4, 6), ready);
        Check.pack(x);
        dueOf(x, "packed", 4, 7, 7, 0, 7, 1, 1, ready, 4);
        int second = Check.prepared(x, Check.PLAIN, 2, 0, 0);
        Check.due("locked by the second one", x.of(2, 6), second);
        Check.due("place of the first of all", Check.with("a", "b").of(1, 7), 1);
        int[] wrongs = {-1, 6, 12, Check.MIN, Check.MAX};
        for (int name : wrongs) {
            Check.due("of(" + name + ", 0)", x.of(name, 0), Check.NONE);
        }
        Check.due("of(0, -1)", x.of(0, -1), Check.NONE);
        Check.due("of(0, 8)", x.of(0, 8), Check.NONE);
    }

    private static void dueOf(NameRevisions x, String when, int name, int... wants) {
        for (int what = 0; what < 8; what++) {
            Check.due("of(" + name + ", " + what + "), " + when, x.of(name, what), wants[what]);
        }
    }

    private static void folder() {
        Check.promise(5);
        NameRevisions x = Check.with("a", "a/b", "a/b/c", "ab", "ab/c", "a/bc", "b/a", "aa/bb", "aa/bb/cc", "aa/bb/c");
        boolean[][] wants = new boolean[10][10];
        wants[0][1] = true;
        wants[0][2] = true;
        wants[0][5] = true;
        wants[1][2] = true;
        wants[3][4] = true;
        wants[7][8] = true;
        wants[7][9] = true;
        for (int name = 0; name < 10; name++) {
            for (int other = 0; other < 10; other++) {
                Check.due("folder(" + name + ", " + other + ")", x.folder(name, other), wants[name][other] ? 1 : 0);
            }
        }
        Check.due("folder(-1, 0)", x.folder(-1, 0), Check.NONE);
        Check.due("folder(0, -1)", x.folder(0, -1), Check.NONE);
        Check.due("folder(10, 0)", x.folder(10, 0), Check.NONE);
        Check.due("folder(0, 10)", x.folder(0, 10), Check.NONE);
    }

    private static void list() {
        Check.promise(6);
        NameRevisions x = Check.with("a/c", "ab", "a/bb", "b", "a", "a/b");
        Check.store(x, 0, 1);
        Check.store(x, 1, 1);
        Check.store(x, 2, 1);
        Check.store(x, 3, 1);
        dueList(x, -1, 2, 0, 1, 3);
        dueList(x, 4, 2, 0);
        dueList(x, 3);
        dueList(x, 1);
        Check.committing(x, Check.FORCED, 2, -1, 0, 5, -1, 8);
        dueList(x, 4, 2, 0);
        x.step(0, 1);
        dueList(x, 4, 5, 0);
        dueList(x, -1, 5, 0, 1, 3);
        dueList(Check.with("a", "b"), -1);
        Check.due("list(-2, 0)", x.list(-2, 0), Check.NONE);
        Check.due("list(6, 0)", x.list(6, 0), Check.NONE);
        Check.due("list(-1, -1)", x.list(-1, -1), Check.NONE);
        Check.due("list(4, MIN)", x.list(4, Check.MIN), Check.NONE);
        Check.due("list(4, MAX)", x.list(4, Check.MAX), Check.NOT_ANY);
    }

    private static void dueList(NameRevisions x, int name, int... wants) {
        for (int k = 0; k <= wants.length; k++) {
            int want = k < wants.length ? wants[k] : Check.NOT_ANY;
            Check.due("list(" + name + ", " + k + ")", x.list(name, k), want);
        }
    }

    private static void journal() {
        Check.promise(7);
        NameRevisions x = Check.with("a", "b");
        Check.due("journal(0, 0, 0), empty", x.journal(0, 0, 0), Check.NONE);
        for (int revision = 1; revision <= 6; revision++) {
            Check.store(x, 0, revision * 10);
        }
        dueEntry(x, 0, 0, 0, 10);
        dueEntry(x, 5, 5, 50, 60);
        Check.store(x, 0, 0);
        dueEntry(x, 0, 1, 10, 20);
        dueEntry(x, 5, 6, 60, 0);
        Check.store(x, 0, 7);
        dueEntry(x, 4, 6, 60, 0);
        dueEntry(x, 5, 7, 0, 7);
        Check.due("of(0, 5), 8 having come", x.of(0, 5), 6);
        Check.due("journal(0, 6, 0)", x.journal(0, 6, 0), Check.NONE);
        Check.due("journal(0, -1, 0)", x.journal(0, -1, 0), Check.NONE);
        Check.due("journal(0, 0, -1)", x.journal(0, 0, -1), Check.NONE);
        Check.due("journal(0, 0, 3)", x.journal(0, 0, 3), Check.NONE);
        Check.due("journal(2, 0, 0)", x.journal(2, 0, 0), Check.NONE);
        Check.due("journal(-1, 0, 0)", x.journal(-1, 0, 0), Check.NONE);
        Check.due("journal(1, 0, 0)", x.journal(1, 0, 0), Check.NONE);
        Check.committing(x, Check.FORCED, 1, -1, 4);
        x.step(0, 1);
        Check.due("of(1, 5), the record alone written", x.of(1, 5), 0);
        x.step(0, 1);
        Check.due("journal(1, 0, 0), applied", x.journal(1, 0, 0), 8);
    }

    private static void dueEntry(NameRevisions x, int k, int... wants) {
        for (int what = 0; what < 3; what++) {
            Check.due("journal(0, " + k + ", " + what + ")", x.journal(0, k, what), wants[what]);
        }
    }

    private static void at() {
        Check.promise(8);
        NameRevisions x = Check.with("a", "b", "c");
        Check.store(x, 0, 5);
        Check.pack(x);
        Check.store(x, 1, 1);
        Check.store(x, 0, 6);
        Check.store(x, 0, 0);
        int[] wants = {5, 5, 6, 0, 0};
        for (int time = 0; time < 5; time++) {
            Check.due("at(0, " + time + ")", x.at(0, time), wants[time]);
        }
        Check.due("at(0, MAX)", x.at(0, Check.MAX), 0);
        Check.due("at(1, 0), ahead of its oldest", x.at(1, 0), 0);
        Check.due("at(1, 1)", x.at(1, 1), 1);
        Check.due("at(2, 0), never stored", x.at(2, 0), 0);
        x.expire(2);
        Check.due("at(0, 0), its oldest being cut", x.at(0, 0), 5);
        Check.due("at(0, 2), its oldest being cut", x.at(0, 2), 6);
        x.expire(9);
        Check.due("at(1, 0), its journal being empty", x.at(1, 0), 1);
        Check.due("at(0, 0), its journal being empty", x.at(0, 0), 0);
        Check.committing(x, Check.FORCED, 1, -1, 3);
        x.step(0, 1);
        Check.due("at(1, 9), the record written: stored", x.at(1, 9), 1);
        Check.due("at(0, -1)", x.at(0, -1), Check.BAD);
        Check.due("at(3, 0)", x.at(3, 0), Check.NONE);
        Check.due("at(-1, -1)", x.at(-1, -1), Check.NONE);
    }

    private static void expire() {
        Check.promise(9);
        NameRevisions x = Check.with("a", "b");
        Check.store(x, 0, 1);
        Check.store(x, 1, 1);
        Check.store(x, 0, 2);
        Check.store(x, 0, 3);
        Check.due("expire(-1)", x.expire(-1), 0);
        Check.due("expire(MIN)", x.expire(Check.MIN), 0);
        Check.due("expire(0)", x.expire(0), 0);
        Check.due("expire(2)", x.expire(2), 2);
        Check.due("expire(2) again", x.expire(2), 0);
        Check.due("of(0, 5)", x.of(0, 5), 2);
        Check.due("of(1, 5)", x.of(1, 5), 0);
        Check.due("journal(0, 0, 0)", x.journal(0, 0, 0), 2);
        Check.due("journal(0, 0, 1)", x.journal(0, 0, 1), 1);
        Check.due("journal(0, 1, 2)", x.journal(0, 1, 2), 3);
        Check.due("expire(MAX)", x.expire(Check.MAX), 2);
        Check.due("of(0, 0), its journal being cut", x.of(0, 0), 3);
    }

    public static void main(String[] args) {
        newObject();
        feed();
        name();
        of();
        folder();
        list();
        journal();
        at();
        expire();
        Check.end();
    }
}
