/** Counts the answers that aren't due, and makes the steps that many tests begin with. */
final class Check {
    static final int NONE = -1, BAD = -2, STATE = -3, FULL = -4, NOT_ANY = -5;
    static final int NOTHING = -11, CAST = -12, PLACE = -13, SIZE = -14;
    static final int PLAIN = 0, FORCED = 1, RISING = 2, KEEPING = 3;
    static final int MIN = Integer.MIN_VALUE, MAX = Integer.MAX_VALUE;

    private static int promise;
    private static int wrong;

    private Check() {
    }

    static void promise(int number) {
        promise = number;
    }

    static void due(String what, long got, long want) {
        if (got != want) {
            wrong++;
            System.out.println("promise " + promise + ": " + what + " answered " + got + ", due is " + want);
        }
    }

    /** Ends the test, with exit code 1 if an answer wasn't due. */
    static void end() {
        if (wrong != 0) {
            System.exit(1);
        }
    }

    /** A new object with these names. */
    static NameRevisions with(String... texts) {
        NameRevisions x = new NameRevisions();
        for (String text : texts) {
            feed(x, text);
            x.name();
        }
        return x;
    }

    static void feed(NameRevisions x, String text) {
        for (int i = 0; i < text.length(); i++) {
            x.feed(text.charAt(i));
        }
    }

    static int name(NameRevisions x, String text) {
        feed(x, text);
        return x.name();
    }

    /** A deal that is open, with rows of three numbers each: name, old, new. */
    static int deal(NameRevisions x, int kind, int... rows) {
        int deal = x.deal(kind);
        for (int r = 0; r + 2 < rows.length; r += 3) {
            x.put(deal, rows[r], rows[r + 1], rows[r + 2]);
        }
        return deal;
    }

    /** A deal that is prepared. */
    static int prepared(NameRevisions x, int kind, int... rows) {
        int deal = deal(x, kind, rows);
        due("prepare, to begin with", x.prepare(deal), 0);
        return deal;
    }

    /** A deal that is committing, no step taken yet. */
    static int committing(NameRevisions x, int kind, int... rows) {
        int deal = prepared(x, kind, rows);
        due("commit, to begin with", x.commit(deal), rows.length / 3 + 2);
        return deal;
    }

    /** A deal of one row that is done whole: the loose revision of a name (0: none). */
    static void store(NameRevisions x, int name, int revision) {
        committing(x, FORCED, name, -1, revision);
        due("step, to begin with", x.step(0, 20), 3);
    }

    /** A repack that is done whole. */
    static void pack(NameRevisions x) {
        int written = x.repack();
        due("step of a repack, to begin with", x.step(1, 20), written + 1);
    }
}
