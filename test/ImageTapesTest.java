/** Promises 31 to 39: judging, the image, tapes. */
public final class ImageTapesTest {
    private static final long NO = NameRevisions.NO;
    private static final int BYTES = 0, SHORTS = 1, INTS = 2, LONGS = 3, BOOLEANS = 4;

    private static void judge() {
        Check.promise(31);
        NameRevisions x = new NameRevisions();
        Check.due("judge(0, 0), no names, nothing held", x.judge(0, 0), Check.NOT_ANY);
        Check.due("judge(0, -1), no names", x.judge(0, -1), Check.NOT_ANY);
        Check.due("judge(-1, 0)", x.judge(-1, 0), Check.NONE);
        Check.due("judge(6, 0)", x.judge(6, 0), Check.NONE);
        x.tape(0, INTS, 5);
        x.tape(1, LONGS, 5);
        Check.due("judge(0, MAX), no names", x.judge(0, Check.MAX), Check.NOT_ANY);
        Check.due("judge(1, 0), no names, a row of longs", x.judge(1, 0), Check.CAST);
        Check.name(x, "a");
        Check.name(x, "b");
        Check.name(x, "c");
        Check.store(x, 1, 7);
        Check.due("judge(0, 0): b is otherwise", x.judge(0, 0), 1);
        x.item(0, 1, 7);
        Check.due("judge(0, 0), all so", x.judge(0, 0), Check.NOT_ANY);
        Check.due("judge(0, 1): a is otherwise", x.judge(0, 1), 0);
        x.item(0, 3, 7);
        Check.due("judge(0, 2), all so", x.judge(0, 2), Check.NOT_ANY);
        x.item(0, 4, 7);
        Check.due("judge(0, 2): c is otherwise", x.judge(0, 2), 2);
        x.tape(0, INTS, 5);
        x.item(0, 4, 7);
        Check.due("judge(0, 3): cut short behind two", x.judge(0, 3), 102);
        x.tape(0, INTS, 5);
        Check.due("judge(0, 4): cut short behind one", x.judge(0, 4), 101);
        Check.due("judge(0, 5): at its end", x.judge(0, 5), 100);
        Check.due("judge(0, MAX)", x.judge(0, Check.MAX), 100);
        Check.due("judge(0, -1)", x.judge(0, -1), 100);
        Check.due("judge(0, MIN)", x.judge(0, Check.MIN), 100);
        Check.due("judge(2, 0), nothing held", x.judge(2, 0), 100);
        Check.due("judge(1, -1), a row of longs", x.judge(1, -1), Check.CAST);
        int[] others = {BYTES, SHORTS, LONGS, BOOLEANS};
        for (int sort : others) {
            x.tape(3, sort, 3);
            Check.due("judge(3, 0), sort " + sort, x.judge(3, 0), Check.CAST);
        }
        x.tape(0, INTS, 3);
        x.item(0, 1, 7);
        x.item(0, 2, 9);
        Check.committing(x, Check.FORCED, 2, -1, 9);
        Check.due("judge(0, 0), no record", x.judge(0, 0), 2);
        x.step(0, 1);
        Check.due("judge(0, 0), by values", x.judge(0, 0), Check.NOT_ANY);
    }

    private static void image() {
        Check.promise(32);
        NameRevisions x = Check.with("a");
        Check.due("image()", x.image(), 1);
        Check.name(x, "b");
        Check.due("image(), the second", x.image(), 2);
        Check.name(x, "c");
        Check.due("undo(): the latest image", x.undo(), 2);
        Check.due("count(0)", x.count(0), 2);
    }

    private static void undo() {
        Check.promise(33);
        NameRevisions x = underWay();
        Check.due("image()", x.image(), 3);
        changeAll(x);
        Check.due("name(), behind the image", x.name(), 3);
        x.feed('e');
        x.feed('e');
        Check.due("undo()", x.undo(), 3);
        Check.due("all that can be asked, undone", stamp(x), stamp(underWay()));
        Check.due("read(0, 3): tapes are no part of it", x.read(0, 3), 0);
        Check.due("count(5): nor is the text", x.count(5), 2);
        Check.due("a name that comes anew", x.name(), 3);
        Check.due("of(3, 1), anew", x.of(3, 1), 0);
        x.crash();
        Check.due("undo(), once more", x.undo(), 3);
        x.step(0, 20);
        Check.due("step(1, 20) goes on where it was", x.step(1, 20), 2);
    }

    private static void undoTwice() {
        Check.promise(33);
        NameRevisions x = underWay();
        x.image();
        changeAll(x);
        Check.due("undo()", x.undo(), 3);
        x.step(0, 20);
        x.step(1, 20);
        x.crash();
        Check.due("undo(), once more", x.undo(), 3);
        Check.due("all that can be asked, undone once more", stamp(x), stamp(underWay()));
    }

    /** An object in which a deal is half applied, a repack runs, and all that is told by hand is there. */
    private static NameRevisions underWay() {
        NameRevisions x = Check.with("a", "b", "a/c");
        Check.due("undo(), no image", x.undo(), Check.STATE);
        Check.store(x, 0, 5);
        Check.pack(x);
        Check.store(x, 0, 6);
        Check.committing(x, Check.FORCED, 1, -1, 3, 0, -1, 0);
        x.step(0, 2);
        Check.deal(x, Check.RISING, 2, -1, 8);
        x.repack();
        x.step(1, 1);
        x.see(0, 6);
        x.plan(2, 0);
        x.book(1, 3);
        x.book(0, 1);
        x.tape(0, INTS, 3);
        x.feed('d');
        return x;
    }

    private static void changeAll(NameRevisions x) {
        x.feed('d');
        x.tape(0, INTS, 4);
        x.crash();
        x.expire(9);
        for (int n = 0; n < 7; n++) {
            Check.store(x, 0, n);
            Check.store(x, 1, 7 - n);
        }
        Check.store(x, 0, 0);
        Check.store(x, 2, 9);
        Check.pack(x);
        Check.deal(x, Check.KEEPING, 1, 3, 4);
        Check.deal(x, Check.PLAIN, 0, 4, 5, 2, 6, 7);
        x.see(-1, 0);
        x.plan(3, 0);
        x.book(-1, 0);
    }

    /** All that can be asked of names, deals and what was told by hand, as one number. */
    private static long stamp(NameRevisions x) {
        long stamp = 7;
        for (int n = 0; n < 4; n++) {
            for (int what = 0; what < 8; what++) {
                stamp = stamp * 31 + x.of(n, what);
            }
            for (int e = 0; e < 6; e++) {
                stamp = stamp * 31 + x.journal(n, e, 0) * 17 + x.journal(n, e, 1) * 13 + x.journal(n, e, 2);
            }
            stamp = stamp * 31 + x.ends(n);
            stamp = stamp * 31 + x.after(0, 1, n) * 11 + x.after(1, 9, n);
        }
        for (int d = 0; d < 4; d++) {
            for (int what = 0; what < 4; what++) {
                stamp = stamp * 31 + x.told(d, what);
            }
        }
        for (int what = 0; what < 7; what++) {
            stamp = stamp * 31 + x.state(what);
        }
        for (int what = 0; what < 5; what++) {
            stamp = stamp * 31 + x.count(what);
        }
        return stamp * 31 + x.looked() * 5 + x.fits(2, 0);
    }

    /** A name that comes behind undo() has nothing of one that had its number. */
    private static void undoneNames() {
        Check.promise(33);
        NameRevisions x = Check.with("a");
        Check.store(x, 0, 5);
        x.image();
        Check.due("name(), a/b", Check.name(x, "a/b"), 1);
        Check.store(x, 0, 0);
        Check.store(x, 1, 6);
        Check.pack(x);
        Check.store(x, 1, 7);
        x.repack();
        x.step(1, 1);
        x.undo();
        Check.due("name(), b", Check.name(x, "b"), 1);
        for (int what = 0; what < 6; what++) {
            Check.due("of(1, " + what + ")", x.of(1, what), what == 4 ? 1 : 0);
        }
        Check.due("wrong of a row for b: a is no folder of it", x.told(Check.deal(x, Check.FORCED, 1, -1, 1), 3), 0);
        Check.due("wrong of a row for a", x.told(Check.deal(x, Check.FORCED, 0, -1, 1, 1, -1, 1), 3), 0);
        x.undo();
        x.repack();
        x.step(1, 1);
        Check.name(x, "c");
        Check.due("state(4): nothing written for c", x.state(4), 1);
    }

    /** With twelve names each call still finds its ends. */
    private static void twelveNames() {
        Check.promise(33);
        NameRevisions x = Check.with("a", "b", "c", "d", "e", "f", "aa", "bb", "cc", "dd", "ee", "ff/ff/ff");
        Check.store(x, 11, 3);
        Check.pack(x);
        Check.store(x, 11, 4);
        Check.deal(x, Check.FORCED, 11, -1, 5);
        x.see(11, 5);
        x.plan(3, 11);
        x.book(11, 4);
        x.book(11, 3);
        Check.due("image()", x.image(), 12);
        x.crash();
        Check.due("expire(1)", x.expire(1), 1);
        Check.due("undo()", x.undo(), 12);
        Check.due("of(11, 5)", x.of(11, 5), 2);
        Check.due("of(11, 7)", x.of(11, 7), 11);
        Check.due("list(-1, 0)", x.list(-1, 0), 11);
        Check.due("list(11, 0)", x.list(11, 0), Check.NOT_ANY);
        Check.due("state(6)", x.state(6), 1);
        Check.due("told(0, 3)", x.told(0, 3), 0);
        Check.due("could(1, 11, 5)", x.could(1, 11, 5), 1);
        Check.due("fits(1, 1)", x.fits(1, 1), 1);
        Check.due("mean(1)", x.mean(1), 6);
        Check.due("ends(11)", x.ends(11), 3);
        Check.due("after(0, 9, 11)", x.after(0, 9, 11), 4);
        Check.due("looked()", x.looked(), 1);
        Check.due("repack()", x.repack(), 1);
        Check.due("step(1, 1)", x.step(1, 1), 1);
        Check.due("state(4)", x.state(4), 1);
        Check.due("step(1, 20)", x.step(1, 20), 1);
        Check.due("of(11, 3)", x.of(11, 3), 4);
        x.tape(0, INTS, 12);
        Check.due("judge(0, 0)", x.judge(0, 0), 11);
        x.item(0, 11, 4);
        Check.due("judge(0, 0), all so", x.judge(0, 0), Check.NOT_ANY);
    }

    private static void taken() {
        Check.promise(34);
        NameRevisions x = new NameRevisions();
        int cast = Check.CAST;
        int[][] wants = {{0, cast, cast, cast}, {1, 1, cast, cast}, {2, cast, 2, cast}, {3, 3, cast, 3}};
        for (int kind = 0; kind < 4; kind++) {
            Check.due("taken(" + kind + ", 0), none there", x.taken(kind, 0), Check.NOTHING);
            x.deal(kind);
            for (int k = 0; k < 4; k++) {
                Check.due("taken(" + kind + ", " + k + ")", x.taken(kind, k), wants[kind][k]);
            }
        }
        Check.due("taken(4, 0)", x.taken(4, 0), Check.NOTHING);
        Check.due("taken(-1, 3)", x.taken(-1, 3), Check.NOTHING);
        Check.due("taken(0, -1)", x.taken(0, -1), Check.BAD);
        Check.due("taken(0, 4)", x.taken(0, 4), Check.BAD);
        Check.due("taken(9, 4)", x.taken(9, 4), Check.BAD);
    }

    private static void count() {
        Check.promise(35);
        NameRevisions x = Check.with("a", "b", "c", "d", "e", "f");
        x.deal(0);
        x.deal(0);
        x.abandon(0);
        x.see(0, 0);
        x.see(0, 0);
        for (int r = 0; r < 3; r++) {
            x.plan(0, 0);
        }
        for (int r = 0; r < 4; r++) {
            x.book(0, 0);
        }
        Check.feed(x, "abcab");
        int[] wants = {6, 1, 2, 3, 4, 5};
        for (int what = 0; what < 6; what++) {
            Check.due("count(" + what + ")", x.count(what), wants[what]);
        }
        Check.due("count(-1)", x.count(-1), Check.BAD);
        Check.due("count(6)", x.count(6), Check.BAD);
    }

    private static void tape() {
        Check.promise(36);
        NameRevisions x = new NameRevisions();
        Check.due("tape(-1, 9, -1)", x.tape(-1, 9, -1), Check.NONE);
        Check.due("tape(6, 0, 0)", x.tape(6, 0, 0), Check.NONE);
        Check.due("tape(0, -2, 0)", x.tape(0, -2, 0), Check.BAD);
        Check.due("tape(0, 5, -1)", x.tape(0, 5, -1), Check.BAD);
        Check.due("tape(0, 0, 61)", x.tape(0, 0, 61), Check.BAD);
        Check.due("tape(0, 0, MAX)", x.tape(0, 0, Check.MAX), Check.BAD);
        Check.due("tape(0, 0, -1)", x.tape(0, 0, -1), Check.SIZE);
        Check.due("tape(0, 4, MIN)", x.tape(0, 4, Check.MIN), Check.SIZE);
        Check.due("item(0, 0, 1), nothing held yet", x.item(0, 0, 1), Check.NOTHING);
        for (int sort = 0; sort < 5; sort++) {
            Check.due("tape(5, " + sort + ", 60)", x.tape(5, sort, 60), 1);
            Check.due("read(5, 0)", x.read(5, 0), 0);
            Check.due("read(5, 59)", x.read(5, 59), 0);
            Check.due("read(5, 60)", x.read(5, 60), NO);
            x.item(5, 0, 1);
            x.item(5, 59, 1);
        }
        Check.due("tape(5, 0, 0)", x.tape(5, 0, 0), 1);
        Check.due("read(5, 0), a row of none", x.read(5, 0), NO);
        Check.due("item(5, 0, 0), a row of none", x.item(5, 0, 0), Check.PLACE);
        Check.due("tape(5, 3, 60)", x.tape(5, 3, 60), 1);
        Check.due("read(5, 59), all 0 again", x.read(5, 59), 0);
        Check.due("tape(5, 3, 61): the row stays", x.tape(5, 3, 61), Check.BAD);
        Check.due("read(5, 59)", x.read(5, 59), 0);
        Check.due("tape(5, -1, 61)", x.tape(5, -1, 61), 1);
        Check.due("tape(5, -1, MIN)", x.tape(5, -1, Check.MIN), 1);
        Check.due("item(5, 0, 0), nothing held", x.item(5, 0, 0), Check.NOTHING);
        Check.due("read(5, 0), nothing held", x.read(5, 0), NO);
    }

    private static void item() {
        Check.promise(37);
        NameRevisions x = new NameRevisions();
        long[] values = {
            0, 1, -1, 127, 128, 255, 256, -129, 32767, 32768, 65536, 1L << 31, (1L << 31) - 1, 1L << 32, -(1L << 31) - 1,
            Long.MAX_VALUE, Long.MIN_VALUE, 3};
        for (int sort = 0; sort < 5; sort++) {
            x.tape(sort, sort, 2);
            for (long value : values) {
                Check.due("item(" + sort + ", 1, " + value + ")", x.item(sort, 1, value), 1);
                Check.due("read(" + sort + ", 1) of " + value, x.read(sort, 1), narrowed(sort, value));
                Check.due("read(" + sort + ", 0)", x.read(sort, 0), 0);
            }
        }
        Check.due("item(-1, 0, 0)", x.item(-1, 0, 0), Check.NONE);
        Check.due("item(6, 0, 0)", x.item(6, 0, 0), Check.NONE);
        Check.due("item(5, -1, 0)", x.item(5, -1, 0), Check.NOTHING);
        Check.due("item(0, -1, 0)", x.item(0, -1, 0), Check.PLACE);
        Check.due("item(0, 2, 0)", x.item(0, 2, 0), Check.PLACE);
        Check.due("item(0, MIN, 0)", x.item(0, Check.MIN, 0), Check.PLACE);
        Check.due("item(0, MAX, 0)", x.item(0, Check.MAX, 0), Check.PLACE);
    }

    private static long narrowed(int sort, long v) {
        switch (sort) {
            case BYTES: return (byte) v;
            case SHORTS: return (short) v;
            case INTS: return (int) v;
            case LONGS: return v;
            default: return v == 0 ? 0 : 1;
        }
    }

    private static void read() {
        Check.promise(38);
        NameRevisions x = new NameRevisions();
        x.tape(0, LONGS, 3);
        x.item(0, 0, 5);
        x.item(0, 2, Long.MAX_VALUE);
        Check.due("read(0, 0)", x.read(0, 0), 5);
        Check.due("read(0, 1)", x.read(0, 1), 0);
        Check.due("read(0, 2)", x.read(0, 2), Long.MAX_VALUE);
        Check.due("read(0, 3)", x.read(0, 3), NO);
        Check.due("read(0, -1)", x.read(0, -1), NO);
        Check.due("read(0, MAX)", x.read(0, Check.MAX), NO);
        Check.due("read(1, 0)", x.read(1, 0), NO);
        Check.due("read(-1, 0)", x.read(-1, 0), NO);
        Check.due("read(6, 0)", x.read(6, 0), NO);
    }

    private static void shift() {
        Check.promise(39);
        NameRevisions x = new NameRevisions();
        x.tape(0, SHORTS, 6);
        x.tape(1, SHORTS, 3);
        x.tape(2, INTS, 6);
        count(x, 0, 6);
        Check.due("shift(0, 0, 0, 1, 4), onto itself", x.shift(0, 0, 0, 1, 4), 4);
        dueItems(x, 0, 1, 1, 2, 3, 4, 6);
        count(x, 0, 6);
        Check.due("shift(0, 2, 0, 0, 4), onto itself", x.shift(0, 2, 0, 0, 4), 4);
        dueItems(x, 0, 3, 4, 5, 6, 5, 6);
        count(x, 0, 6);
        Check.due("shift(0, 3, 1, 0, 3)", x.shift(0, 3, 1, 0, 3), 3);
        dueItems(x, 1, 4, 5, 6);
        dueItems(x, 0, 1, 2, 3, 4, 5, 6);
        Check.due("shift(0, 6, 1, 3, 0): at both ends", x.shift(0, 6, 1, 3, 0), 0);
        int[][] beyond = {
            {0, 4, 1, 0, 3}, {0, 0, 1, 1, 3}, {0, 0, 1, 0, 4}, {0, 7, 1, 0, 0}, {0, 0, 1, 4, 0}, {0, -1, 1, 0, 1},
            {0, 0, 1, -1, 1}, {0, 0, 1, 0, -1}, {0, Check.MAX, 1, 0, 2}, {0, 0, 1, Check.MAX, 1},
            {0, 1, 1, 1, Check.MAX}, {0, 0, 1, 0, Check.MIN}, {0, Check.MIN, 1, 0, 0}};
        for (int[] it : beyond) {
            Check.due("shift beyond an end", x.shift(it[0], it[1], it[2], it[3], it[4]), Check.PLACE);
        }
        Check.due("shift(-1, ..)", x.shift(-1, 0, 0, 0, -1), Check.NONE);
        Check.due("shift(0, 0, 6, 0, 0)", x.shift(0, 0, 6, 0, 0), Check.NONE);
        Check.due("shift(6, 0, 0, 0, 0)", x.shift(6, 0, 0, 0, 0), Check.NONE);
        Check.due("shift(0, 0, 3, 0, -1)", x.shift(0, 0, 3, 0, -1), Check.NOTHING);
        Check.due("shift(3, 0, 0, 0, 0)", x.shift(3, 0, 0, 0, 0), Check.NOTHING);
        Check.due("shift(0, 0, 2, 0, -1)", x.shift(0, 0, 2, 0, -1), Check.CAST);
        dueItems(x, 1, 4, 5, 6);
        for (int sort = 0; sort < 5; sort++) {
            x.tape(3, sort, 2);
            x.tape(4, sort, 2);
            x.item(3, 1, 1);
            Check.due("shift of sort " + sort, x.shift(3, 1, 4, 0, 1), 1);
            dueItems(x, 4, 1, 0);
        }
    }

    private static void count(NameRevisions x, int tape, int size) {
        for (int i = 0; i < size; i++) {
            x.item(tape, i, i + 1);
        }
    }

    private static void dueItems(NameRevisions x, int tape, int... wants) {
        for (int i = 0; i < wants.length; i++) {
            Check.due("read(" + tape + ", " + i + ")", x.read(tape, i), wants[i]);
        }
    }

    public static void main(String[] args) {
        judge();
        image();
        undo();
        undoTwice();
        undoneNames();
        twelveNames();
        taken();
        count();
        tape();
        item();
        read();
        shift();
        Check.end();
    }
}
