/** Promises 27 to 30: plans and books. */
public final class PlansBooksTest {
    private static void plan() {
        Check.promise(27);
        NameRevisions x = Check.with("a");
        Check.due("plan(4, 0)", x.plan(4, 0), Check.NONE);
        Check.due("plan(-2, 0)", x.plan(-2, 0), Check.NONE);
        Check.due("plan(3, 1)", x.plan(3, 1), Check.NONE);
        Check.due("plan(3, -1)", x.plan(3, -1), Check.NONE);
        Check.due("count(3), none taken", x.count(3), 0);
        Check.due("plan(3, 0)", x.plan(3, 0), 1);
        Check.due("plan(0, MIN)", x.plan(0, Check.MIN), 2);
        Check.due("plan(1, MAX)", x.plan(1, Check.MAX), 3);
        Check.due("plan(2, -1)", x.plan(2, -1), 4);
        for (int r = 5; r <= 10; r++) {
            Check.due("plan, row " + r, x.plan(0, 0), r);
        }
        Check.due("plan, row 11", x.plan(0, 0), Check.FULL);
        Check.due("plan(3, 1), ten being there", x.plan(3, 1), Check.NONE);
        Check.due("count(3)", x.count(3), 10);
        Check.due("ends(0) with numbers that don't matter", x.ends(0), 0);
        Check.due("plan(-1, MAX)", x.plan(-1, Check.MAX), 0);
        Check.due("count(3), empty", x.count(3), 0);
        Check.due("plan(2, 0), again", x.plan(2, 0), 1);
    }

    private static void ends() {
        Check.promise(28);
        NameRevisions x = Check.with("a", "b", "c");
        Check.store(x, 0, 5);
        Check.pack(x);
        Check.store(x, 0, 6);
        Check.store(x, 1, 2);
        dueEnds(x, 6, 2, 0);
        // Only what is loose is lost.
        x.plan(3, 0);
        x.plan(3, 1);
        dueEnds(x, 5, 0, 0);
        Check.due("of(0, 2): nothing changed", x.of(0, 2), 6);
        x.plan(-1, 0);
        Check.committing(x, Check.FORCED, 0, -1, 0, 2, -1, 9);
        x.plan(0, 0);
        dueEnds(x, 0, 2, 9);
        x.plan(-1, 0);
        x.plan(2, 0);
        x.plan(0, 0);
        dueEnds(x, 6, 2, 0);
        x.plan(-1, 0);
        x.plan(0, 0);
        x.plan(2, 0);
        x.plan(3, 2);
        dueEnds(x, 0, 2, 0);
        x.plan(-1, 0);
        x.plan(0, 0);
        x.plan(3, 2);
        dueEnds(x, 0, 2, 9);
        Check.due("state(2): nothing changed", x.state(2), 4);
        Check.due("ends(3)", x.ends(3), Check.NONE);
        Check.due("ends(-1)", x.ends(-1), Check.NONE);
    }

    private static void endsOfRepack() {
        Check.promise(28);
        NameRevisions x = Check.with("a", "b");
        Check.store(x, 0, 5);
        Check.store(x, 1, 6);
        for (int r = 0; r < 3; r++) {
            x.plan(1, 0);
        }
        x.plan(3, 0);
        dueEnds(x, 0, 6);
        x.repack();
        dueEnds(x, 5, 6);
        x.step(1, 1);
        dueEnds(x, 5, 6);
        Check.due("state(4): nothing changed", x.state(4), 1);
        // A crash ahead of its last step: the pack is as it was.
        x.plan(-1, 0);
        x.plan(1, 0);
        x.plan(2, 0);
        x.plan(1, 0);
        x.plan(3, 1);
        dueEnds(x, 5, 0);
        // What isn't stored when the repack is over isn't in the pack, though it was written.
        x.plan(-1, 0);
        x.plan(3, 0);
        x.plan(1, 0);
        x.plan(1, 0);
        dueEnds(x, 0, 6);
    }

    private static void dueEnds(NameRevisions x, int... wants) {
        for (int name = 0; name < wants.length; name++) {
            Check.due("ends(" + name + ")", x.ends(name), wants[name]);
        }
    }

    private static void book() {
        Check.promise(29);
        NameRevisions x = Check.with("a", "b");
        Check.due("book(2, 1000)", x.book(2, 1000), Check.NONE);
        Check.due("book(-2, 0)", x.book(-2, 0), Check.NONE);
        Check.due("book(0, 1000)", x.book(0, 1000), Check.BAD);
        Check.due("book(0, -1)", x.book(0, -1), Check.BAD);
        for (int r = 1; r <= 8; r++) {
            Check.due("book, row " + r, x.book(r % 2, r == 1 ? 999 : 0), r);
        }
        Check.due("book, row 9", x.book(0, 0), Check.FULL);
        Check.due("book(0, 1000), eight being there", x.book(0, 1000), Check.BAD);
        Check.due("count(4)", x.count(4), 8);
        Check.due("book(-1, -1)", x.book(-1, -1), 0);
        Check.due("count(4), empty", x.count(4), 0);
        Check.due("looked(), empty", x.looked(), Check.NOT_ANY);
        Check.due("book(1, 3), again", x.book(1, 3), 1);
        Check.due("looked()", x.looked(), 0);
    }

    private static void looked() {
        Check.promise(30);
        NameRevisions x = Check.with("a", "b");
        Check.due("looked(), no book", x.looked(), Check.NOT_ANY);
        x.book(0, 0);
        x.book(1, 0);
        x.book(0, 0);
        Check.due("looked(), all so", x.looked(), Check.NOT_ANY);
        Check.committing(x, Check.FORCED, 1, -1, 4);
        Check.due("looked(), no record", x.looked(), Check.NOT_ANY);
        x.step(0, 1);
        Check.due("looked(), by value", x.looked(), 1);
        x.step(0, 2);
        Check.due("looked(), done", x.looked(), 1);
        Check.store(x, 0, 1);
        Check.due("looked(), the first of all", x.looked(), 0);
        x.book(-1, 0);
        x.book(0, 1);
        x.book(1, 4);
        x.book(1, 5);
        Check.due("looked(), the last", x.looked(), 2);
    }

    public static void main(String[] args) {
        plan();
        ends();
        endsOfRepack();
        book();
        looked();
        Check.end();
    }
}
