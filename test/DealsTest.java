/** Promises 10 to 19: deals, the repack, steps and crashes. */
public final class DealsTest {
    private static void deal() {
        Check.promise(10);
        NameRevisions x = Check.with("a");
        Check.due("deal(-1)", x.deal(-1), Check.NONE);
        Check.due("deal(4)", x.deal(4), Check.NONE);
        for (int d = 0; d < 4; d++) {
            Check.due("deal(" + (3 - d) + ")", x.deal(3 - d), d);
            Check.due("told(" + d + ", 0)", x.told(d, 0), 3 - d);
        }
        Check.due("deal(0), four being there", x.deal(0), Check.FULL);
        Check.due("deal(4), four being there", x.deal(4), Check.NONE);
        x.put(1, 0, 0, 1);
        x.abandon(2);
        x.abandon(1);
        Check.due("state(5)", x.state(5), 9);
        Check.due("deal(1), 1 and 2 being free", x.deal(1), 1);
        Check.due("rows of the new one", x.told(1, 1), 0);
        Check.due("the new one's phase", x.told(1, 2), 0);
        Check.due("deal(0), 2 being free", x.deal(0), 2);
    }

    private static void put() {
        Check.promise(11);
        NameRevisions x = Check.with("a", "b", "c", "d", "e");
        x.deal(Check.PLAIN);
        Check.due("put(0, 0, -1, 0)", x.put(0, 0, -1, 0), 1);
        Check.due("put(0, 1, 999, 999)", x.put(0, 1, 999, 999), 2);
        Check.due("put, no such deal", x.put(1, 2, 0, 0), Check.NONE);
        Check.due("put, deal -1", x.put(-1, 2, 0, 0), Check.NONE);
        Check.due("put, deal 4", x.put(4, 2, 0, 0), Check.NONE);
        Check.due("put, no such name", x.put(0, 5, -2, 0), Check.NONE);
        Check.due("put, name -1", x.put(0, -1, 0, 0), Check.NONE);
        Check.due("put, old -2", x.put(0, 2, -2, 0), Check.BAD);
        Check.due("put, old 1000", x.put(0, 2, 1000, 0), Check.BAD);
        Check.due("put, new -1", x.put(0, 2, 0, -1), Check.BAD);
        Check.due("put, new 1000", x.put(0, 2, 0, 1000), Check.BAD);
        Check.due("put, a bad row for a name that has one", x.put(0, 0, 0, 1000), Check.BAD);
        Check.due("put, a row for a name that has one", x.put(0, 0, 0, 1), Check.STATE);
        Check.due("told(0, 1)", x.told(0, 1), 2);
        Check.due("put, a third row", x.put(0, 2, 0, 0), 3);
        Check.due("put, a fourth row", x.put(0, 3, 0, 0), 4);
        Check.due("put, a fifth row", x.put(0, 4, 0, 0), Check.FULL);
        Check.due("put, a fifth row for a name that has one", x.put(0, 3, 0, 0), Check.STATE);
        Check.prepared(x, Check.FORCED, 4, 0, 1);
        Check.due("put, the deal being prepared", x.put(1, 3, 0, 0), Check.STATE);
        Check.due("put, prepared, a bad row", x.put(1, 3, 0, -1), Check.BAD);
        x.commit(1);
        Check.due("put, the deal committing", x.put(1, 3, 0, 0), Check.STATE);
    }

    private static void prepare() {
        Check.promise(12);
        NameRevisions x = Check.with("a", "b");
        Check.due("prepare(0), none there", x.prepare(0), Check.NONE);
        Check.due("prepare(-1)", x.prepare(-1), Check.NONE);
        Check.due("prepare(4)", x.prepare(4), Check.NONE);
        Check.deal(x, Check.PLAIN, 0, 0, 1, 1, 3, 1);
        Check.due("prepare(0), row 1 not asked for", x.prepare(0), -22);
        Check.due("told(0, 2), refused", x.told(0, 2), 0);
        Check.due("of(0, 6), refused", x.of(0, 6), -5);
        Check.deal(x, Check.PLAIN, 0, 0, 1);
        Check.due("prepare(1)", x.prepare(1), 0);
        Check.due("told(1, 2)", x.told(1, 2), 1);
        Check.due("prepare(1) again", x.prepare(1), Check.STATE);
        Check.due("prepare(0), row 0 locked", x.prepare(0), -11);
        x.commit(1);
        Check.due("prepare(1), committing", x.prepare(1), Check.STATE);
        Check.due("prepare(2), no rows", x.prepare(x.deal(Check.KEEPING)), 0);
    }

    private static void commit() {
        Check.promise(13);
        NameRevisions x = Check.with("a", "b", "c", "d", "e");
        Check.due("commit(0), none there", x.commit(0), Check.NONE);
        Check.due("commit(4)", x.commit(4), Check.NONE);
        Check.due("commit(MIN)", x.commit(Check.MIN), Check.NONE);
        Check.deal(x, Check.FORCED, 0, 0, 1, 1, 0, 1, 2, 0, 1, 3, 0, 1);
        Check.due("commit(0), open", x.commit(0), Check.STATE);
        Check.prepared(x, Check.FORCED, 4, 0, 1);
        x.prepare(0);
        Check.due("commit(0)", x.commit(0), 6);
        Check.due("told(0, 2)", x.told(0, 2), 2);
        Check.due("state(1), no step taken", x.state(1), 0);
        Check.due("commit(0) again", x.commit(0), Check.STATE);
        Check.due("commit(1), 0 committing", x.commit(1), Check.STATE);
        Check.due("told(1, 2)", x.told(1, 2), 1);
        x.step(0, 5);
        Check.due("commit(1), the last step not taken", x.commit(1), Check.STATE);
        x.step(0, 1);
        Check.due("commit(1), 0 gone", x.commit(1), 3);
        x.crash();
        Check.prepared(x, Check.PLAIN);
        Check.due("commit(0), no rows", x.commit(0), 2);
    }

    private static void abandon() {
        Check.promise(14);
        NameRevisions x = Check.with("a", "b");
        Check.due("abandon(0), none there", x.abandon(0), Check.NONE);
        Check.due("abandon(4)", x.abandon(4), Check.NONE);
        Check.due("abandon(-1)", x.abandon(-1), Check.NONE);
        Check.deal(x, Check.FORCED, 0, 0, 1, 1, 0, 1);
        Check.due("abandon(0), open", x.abandon(0), 2);
        Check.due("abandon(0) again", x.abandon(0), Check.NONE);
        Check.prepared(x, Check.FORCED, 0, 0, 1);
        Check.due("abandon(0), prepared", x.abandon(0), 1);
        Check.due("of(0, 6), abandoned", x.of(0, 6), -5);
        Check.due("of(0, 1), abandoned", x.of(0, 1), 0);
        Check.committing(x, Check.FORCED, 0, 0, 1);
        Check.due("abandon(0), committing", x.abandon(0), Check.STATE);
        x.step(0, 1);
        Check.due("abandon(0), the record written", x.abandon(0), Check.STATE);
        Check.due("state(5)", x.state(5), 1);
    }

    private static void repack() {
        Check.promise(15);
        NameRevisions x = Check.with("b", "a", "c/d", "c");
        Check.due("repack(), nothing stored", x.repack(), 0);
        Check.due("repack(), one running", x.repack(), Check.STATE);
        Check.due("step(1, 20), nothing stored", x.step(1, 20), 1);
        Check.store(x, 0, 2);
        Check.store(x, 1, 1);
        Check.store(x, 2, 3);
        Check.due("repack()", x.repack(), 3);
        Check.due("step(1, 1)", x.step(1, 1), 1);
        Check.due("state(4), one written", x.state(4), 1);
        Check.due("of(1, 3), not over yet", x.of(1, 3), 0);
        // a is reached; what is done to it now does not come into the pack, but b's new revision does.
        Check.store(x, 1, 8);
        Check.store(x, 0, 9);
        Check.store(x, 2, 0);
        Check.store(x, 3, 4);
        Check.due("step(1, 20)", x.step(1, 20), 3);
        duePlaces(x, 1, 8, 1);
        duePlaces(x, 0, 0, 9);
        duePlaces(x, 2, 0, 0);
        duePlaces(x, 3, 0, 4);
        Check.due("state(3), over", x.state(3), 0);
        Check.due("repack() again", x.repack(), 3);
        Check.due("state(4), begun again", x.state(4), 0);
    }

    private static void duePlaces(NameRevisions x, int name, int loose, int packed) {
        Check.due("of(" + name + ", 2)", x.of(name, 2), loose);
        Check.due("of(" + name + ", 3)", x.of(name, 3), packed);
    }

    /** What was deleted never comes back from the pack. */
    private static void repackBesideDeals() {
        Check.promise(15);
        NameRevisions x = Check.with("a", "b", "c");
        Check.store(x, 0, 1);
        Check.store(x, 1, 2);
        Check.store(x, 2, 3);
        Check.pack(x);
        x.repack();
        x.step(1, 3);
        Check.store(x, 0, 0);
        Check.due("of(0, 3), deleted", x.of(0, 3), 0);
        Check.store(x, 1, 0);
        Check.store(x, 1, 7);
        Check.store(x, 2, 3);
        Check.due("step(1, 20)", x.step(1, 20), 1);
        duePlaces(x, 0, 0, 0);
        duePlaces(x, 1, 7, 2);
        duePlaces(x, 2, 0, 3);
        // A name that comes, or is stored, behind the place that was reached is left loose.
        x.repack();
        x.step(1, 1);
        Check.name(x, "aa");
        Check.name(x, "d");
        Check.store(x, 3, 4);
        Check.store(x, 4, 5);
        Check.store(x, 0, 6);
        Check.due("step(1, 20), b reached", x.step(1, 20), 3);
        duePlaces(x, 0, 6, 0);
        duePlaces(x, 1, 0, 7);
        duePlaces(x, 3, 4, 0);
        duePlaces(x, 4, 0, 5);
    }

    private static void step() {
        Check.promise(16);
        NameRevisions x = Check.with("a", "b");
        Check.due("step(-1, 1)", x.step(-1, 1), Check.NONE);
        Check.due("step(2, 21)", x.step(2, 21), Check.NONE);
        Check.due("step(0, -1)", x.step(0, -1), Check.BAD);
        Check.due("step(0, 21)", x.step(0, 21), Check.BAD);
        Check.due("step(1, 21)", x.step(1, 21), Check.BAD);
        Check.due("step(0, 20), none committing", x.step(0, 20), 0);
        Check.due("step(1, 20), no repack", x.step(1, 20), 0);
        Check.committing(x, Check.FORCED, 1, 0, 4, 0, 0, 3);
        Check.due("step(0, 0)", x.step(0, 0), 0);
        Check.due("state(1)", x.state(1), 0);
        Check.due("step(0, 1), the record", x.step(0, 1), 1);
        Check.due("state(1), written", x.state(1), 1);
        Check.due("of(1, 1), written", x.of(1, 1), 0);
        Check.due("step(0, 1), row 0", x.step(0, 1), 1);
        Check.due("of(1, 1), row 0 applied", x.of(1, 1), 4);
        Check.due("of(0, 1), row 0 applied", x.of(0, 1), 0);
        Check.due("step(0, 1), row 1", x.step(0, 1), 1);
        Check.due("of(0, 1), row 1 applied", x.of(0, 1), 3);
        Check.due("state(0), not done", x.state(0), 0);
        Check.due("step(0, 20), the last", x.step(0, 20), 1);
        Check.due("state(0), done", x.state(0), 1);
        Check.due("state(1), done", x.state(1), 0);
        Check.due("state(5), done", x.state(5), 0);
        x.repack();
        Check.due("step(1, 2)", x.step(1, 2), 2);
        Check.due("state(3), all reached", x.state(3), 1);
        Check.due("step(1, 2), over", x.step(1, 2), 1);
        Check.due("state(3), over", x.state(3), 0);
    }

    private static void crash() {
        Check.promise(17);
        NameRevisions x = Check.with("a", "b", "c");
        Check.due("crash(), nothing there", x.crash(), 0);
        Check.store(x, 2, 9);
        Check.pack(x);
        Check.committing(x, Check.FORCED, 0, 0, 1, 1, 0, 2);
        Check.deal(x, Check.PLAIN);
        Check.due("crash(), no record", x.crash(), 2);
        Check.due("of(0, 1), no record", x.of(0, 1), 0);
        Check.due("state(0), no record", x.state(0), 1);
        Check.committing(x, Check.FORCED, 0, 0, 1, 1, 0, 2, 2, -1, 0);
        Check.prepared(x, Check.RISING);
        x.repack();
        x.step(0, 2);
        x.step(1, 1);
        Check.due("crash(), one row applied", x.crash(), 2);
        Check.due("of(0, 1)", x.of(0, 1), 1);
        Check.due("of(1, 1)", x.of(1, 1), 2);
        Check.due("of(2, 0)", x.of(2, 0), 0);
        Check.due("of(2, 3)", x.of(2, 3), 0);
        Check.due("of(0, 5): applied once", x.of(0, 5), 1);
        Check.due("journal(1, 0, 0)", x.journal(1, 0, 0), 1);
        Check.due("state(0)", x.state(0), 2);
        Check.due("state(1)", x.state(1), 0);
        Check.due("state(2)", x.state(2), 0);
        Check.due("state(3)", x.state(3), 0);
        Check.due("state(5)", x.state(5), 0);
        Check.due("step(1, 1), no repack runs any more", x.step(1, 1), 0);
        Check.pack(x);
        x.repack();
        x.step(1, 1);
        Check.due("crash(), a repack running", x.crash(), 0);
        Check.due("of(0, 3): the pack as it was", x.of(0, 3), 1);
        Check.committing(x, Check.FORCED, 0, 0, 5);
        x.step(0, 2);
        Check.due("crash(), all rows applied", x.crash(), 1);
        Check.due("of(0, 5), all rows applied", x.of(0, 5), 2);
        Check.due("state(0), all rows applied", x.state(0), 3);
    }

    private static void told() {
        Check.promise(18);
        NameRevisions x = Check.with("a", "b", "a/b");
        Check.store(x, 0, 5);
        int rising = Check.deal(x, Check.RISING, 0, 5, 5, 1, 0, 1);
        dueTold(x, rising, Check.RISING, 2, 0, 2);
        x.abandon(rising);
        int ready = Check.prepared(x, Check.FORCED, 1, 0, 2);
        dueTold(x, ready, Check.FORCED, 1, 1, 0);
        int second = Check.deal(x, Check.KEEPING, 0, 0, 3, 1, 0, 0);
        dueTold(x, second, Check.KEEPING, 2, 0, 11);
        x.commit(ready);
        x.step(0, 1);
        dueTold(x, ready, Check.FORCED, 1, 2, 0);
        dueTold(x, second, Check.KEEPING, 2, 0, 11);
        x.step(0, 2);
        dueTold(x, second, Check.KEEPING, 2, 0, 12);
        dueTold(x, ready, -1, -1, -1, -1);
        Check.due("told(1, -1)", x.told(second, -1), Check.NONE);
        Check.due("told(1, 4)", x.told(second, 4), Check.NONE);
        Check.due("told(-1, 0)", x.told(-1, 0), Check.NONE);
        Check.due("told(4, 0)", x.told(4, 0), Check.NONE);
    }

    private static void dueTold(NameRevisions x, int deal, int... wants) {
        for (int what = 0; what < 4; what++) {
            Check.due("told(" + deal + ", " + what + ")", x.told(deal, what), wants[what]);
        }
    }

    /** Wrong by 2: what the kinds ask for, of a name that has 5 stored. */
    private static void askedFor() {
        Check.promise(18);
        NameRevisions x = Check.with("a");
        Check.store(x, 0, 5);
        int[][] rows = {{-1, 3}, {5, 3}, {4, 3}, {0, 3}, {5, 0}, {-1, 0}, {4, 0}, {5, 5}, {5, 6}, {-1, 6}, {4, 6}};
        int[][] wants = {
            {0, 0, 2, 2, 0, 0, 2, 0, 0, 0, 2},
            {0, 0, 0, 0, 0, 0, 0, 0, 0, 0, 0},
            {2, 2, 2, 2, 0, 0, 2, 2, 0, 0, 2},
            {0, 0, 0, 0, 2, 2, 2, 0, 0, 0, 0}};
        for (int kind = 0; kind < 4; kind++) {
            for (int r = 0; r < rows.length; r++) {
                int deal = Check.deal(x, kind, 0, rows[r][0], rows[r][1]);
                String what = "told(0, 3) of kind " + kind + ", old " + rows[r][0] + ", new " + rows[r][1];
                Check.due(what, x.told(deal, 3), wants[kind][r]);
                x.abandon(deal);
            }
        }
    }

    /** Wrong by 3: names that clash with one that is there. */
    private static void clashes() {
        Check.promise(18);
        NameRevisions x = Check.with("a", "a/b", "a/b/c", "a/d", "ab", "b");
        Check.store(x, 1, 5);
        dueWrong(x, 3, 0, -1, 1);
        dueWrong(x, 3, 2, -1, 1);
        dueWrong(x, 0, 3, -1, 1);
        dueWrong(x, 0, 4, -1, 1);
        dueWrong(x, 0, 0, -1, 0);
        // A row of its own says what is there, ahead of what is stored; it may stand behind.
        dueWrong(x, 0, 0, -1, 1, 1, -1, 0);
        dueWrong(x, 0, 1, -1, 0, 2, -1, 1);
        dueWrong(x, 3, 0, -1, 1, 1, -1, 2);
        dueWrong(x, 13, 1, -1, 0, 2, -1, 1, 0, -1, 1);
        dueWrong(x, 0, 1, -1, 0, 2, -1, 1, 3, -1, 1);
        // What others, prepared, will take away is there yet, and what they will put there is so already.
        int away = Check.prepared(x, Check.FORCED, 1, -1, 0);
        dueWrong(x, 3, 0, -1, 1);
        dueWrong(x, 1, 1, -1, 0, 2, -1, 1);
        x.abandon(away);
        Check.store(x, 1, 0);
        int nothing = Check.prepared(x, Check.FORCED, 1, -1, 0);
        dueWrong(x, 0, 0, -1, 1);
        x.abandon(nothing);
        int open = Check.deal(x, Check.FORCED, 3, -1, 4);
        dueWrong(x, 0, 0, -1, 1);
        x.prepare(open);
        dueWrong(x, 3, 0, -1, 1);
        dueWrong(x, 0, 1, -1, 1);
        x.commit(open);
        dueWrong(x, 3, 0, -1, 1);
        x.step(0, 1);
        dueWrong(x, 21, 5, -1, 1, 0, -1, 1, 3, -1, 0);
        dueWrong(x, 13, 5, -1, 1, 0, -1, 1);
    }

    private static void dueWrong(NameRevisions x, int want, int... rows) {
        int deal = Check.deal(x, Check.FORCED, rows);
        StringBuilder words = new StringBuilder("wrong of rows");
        for (int number : rows) {
            words.append(' ').append(number);
        }
        Check.due(words.toString(), x.told(deal, 3), want);
        x.abandon(deal);
    }

    private static void state() {
        Check.promise(19);
        NameRevisions x = Check.with("a", "b", "c");
        Check.committing(x, Check.FORCED, 0, -1, 1, 1, -1, 1);
        Check.deal(x, Check.PLAIN);
        dueState(x, 0, 0, 4, 0, 0, 3, 2);
        x.step(0, 1);
        dueState(x, 0, 1, 3, 0, 0, 3, 2);
        x.step(0, 1);
        dueState(x, 0, 1, 2, 0, 0, 3, 2);
        x.step(0, 1);
        dueState(x, 0, 1, 1, 0, 0, 3, 2);
        x.step(0, 1);
        dueState(x, 1, 0, 0, 0, 0, 2, 2);
        x.repack();
        dueState(x, 1, 0, 0, 1, 0, 2, 2);
        x.step(1, 2);
        dueState(x, 1, 0, 0, 1, 2, 2, 2);
        x.step(1, 1);
        dueState(x, 1, 0, 0, 0, 0, 2, 2);
        Check.due("state(-1)", x.state(-1), Check.NONE);
        Check.due("state(7)", x.state(7), Check.NONE);
    }

    private static void most() {
        Check.promise(19);
        NameRevisions x = Check.with("a", "b", "a/c");
        // 0 and 1 ask for the same of a, and each makes it otherwise; 2 clashes with what they put there.
        Check.deal(x, Check.PLAIN, 0, 0, 1);
        Check.deal(x, Check.PLAIN, 0, 0, 2);
        Check.due("state(6): either alone", x.state(6), 1);
        Check.deal(x, Check.FORCED, 2, 0, 2);
        Check.due("state(6): still one", x.state(6), 1);
        Check.deal(x, Check.FORCED, 1, 0, 2);
        Check.due("state(6): 0 and 3", x.state(6), 9);
        x.abandon(0);
        Check.deal(x, Check.FORCED, 2, 0, 0, 0, 0, 2);
        Check.due("state(6): 0, 1 and 3, the least of two sets of three", x.state(6), 11);
        x.abandon(3);
        x.prepare(2);
        x.commit(2);
        Check.due("state(6), 2 committing", x.state(6), 3);
        x.step(0, 1);
        Check.due("state(6), the record of 2 written", x.state(6), 1);
        // 2 can go behind 0, and 0 behind 1: of two sets of two the least, though its order comes later.
        NameRevisions y = Check.with("a", "b");
        Check.deal(y, Check.FORCED, 0, -1, 1);
        Check.deal(y, Check.PLAIN, 0, 0, 5, 1, -1, 1);
        Check.deal(y, Check.PLAIN, 0, 1, 2, 1, 0, 0);
        Check.due("orders(5)", y.orders(5), 1);
        Check.due("orders(3)", y.orders(3), 1);
        Check.due("state(6): 0 and 1", y.state(6), 3);
        // 2 can go behind 0; 1, the lesser set, alone.
        NameRevisions z = Check.with("a");
        Check.deal(z, Check.PLAIN, 0, 0, 1);
        Check.deal(z, Check.PLAIN, 0, 0, 5);
        Check.deal(z, Check.PLAIN, 0, 1, 2);
        Check.due("state(6): 0 and 2", z.state(6), 5);
    }

    private static void dueState(NameRevisions x, int... wants) {
        for (int what = 0; what < 7; what++) {
            Check.due("state(" + what + ")", x.state(what), wants[what]);
        }
    }

    public static void main(String[] args) {
        deal();
        put();
        prepare();
        commit();
        abandon();
        repack();
        repackBesideDeals();
        step();
        crash();
        told();
        askedFor();
        clashes();
        state();
        most();
        Check.end();
    }
}
