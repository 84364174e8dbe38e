/** What the document says of what can be, of plans and of books: Terms, part 2, and promises 20 to 30. */
final class EdgesOfAsked {
    // Deals 0 to 3, each of which can go only behind the one with the number above its own: name 0 goes from 0 to 4.
    private static final String[] BACKWARDS = {
        "names a b", "open 0 0:3:4 = 0", "open 0 0:2:3 = 1", "open 0 0:1:2 = 2", "open 0 0:0:1 = 3"};
    // Deals 0 to 2 that can go in each order: the last one tells what name 0 is then, 1 to 3.
    private static final String[] FREE = {
        "names a b", "open 1 0:-1:1 = 0", "open 1 0:-1:2 = 1", "open 1 0:-1:3 = 2"};

    private final Edges doc;

    private EdgesOfAsked(Edges doc) {
        this.doc = doc;
    }

    static void tell(Edges doc) {
        EdgesOfAsked it = new EdgesOfAsked(doc);
        it.afterSteps();
        it.atTime();
        it.listUnder();
        it.ordersOfSets();
        it.couldOfSets();
        it.fitsOfSets();
        it.mostOfAll();
        it.fractions();
        it.planned();
        it.booked();
        it.imaged();
        it.after();
        it.orders();
        it.could();
        it.see();
        it.fits();
        it.odds();
        it.mean();
        it.plan();
        it.ends();
        it.book();
        it.looked();
    }

    private static String[] behind(String[] beginning, String... lines) {
        String[] all = java.util.Arrays.copyOf(beginning, beginning.length + lines.length);
        System.arraycopy(lines, 0, all, beginning.length, lines.length);
        return all;
    }

    private void afterSteps() {
        doc.in("Terms 2");
        doc.edge("All that follows is asked, and changes nothing.",
            "names a b", "store 0 5", "going 1 0:-1:0 1:-1:7", "step 0 1 = 1", "repack = 1", "plan 0 0 = 1", "plan 1 0 = 2",
            "after 0 9 0 = 0", "after 1 9 1 = 7", "ends 0 = 0", "orders 0 = 1", "state 2 = 3", "state 4 = 0", "of 0 1 = 5",
            "of 1 5 = 0", "state 3 = 1", "count 3 = 2");
        doc.edge("AFTER n STEPS (0 .. 9) of the one COMMITTING (kind 0),",
            "names a b c d", "store 0 5", "after 0 {0 1 9} 0 = 5", "going 1 0:-1:0 1:-1:2 2:-1:3 3:-1:4", "after 0 0 0 = 5",
            "after 0 0 {1 2 3} = 0", "after 0 {1 2 5 6 7 9} 0 = 0", "after 0 {1 2 3 6 9} 3 = 4", "step 0 1 = 1",
            "after 0 {0 1 9} 3 = 4", "after 0 0 0 = 0", "step 0 4 = 4", "after 0 {0 1 2 9} 3 = 4", "step 0 1 = 1",
            "after 0 9 3 = 4");
        doc.edge("or of a REPACK (1; fewer, if none runs then), and a CRASH then: VALUE of a NAME.",
            "names a b", "store 0 5", "after 1 {0 1 9} 0 = 5", "after 1 9 1 = 0", "repack = 1", "after 1 {0 1 2 3 9} 0 = 5",
            "going 1 0:-1:6 1:-1:7", "after 1 9 0 = 5", "after 1 9 1 = 0", "step 0 1 = 1", "after 1 {0 1 9} 0 = 6",
            "after 1 {0 1 9} 1 = 7", "state 3 = 1");
    }

    private void atTime() {
        doc.edge("AT a TIME a NAME was: NEW of the newest in its JOURNAL that came at that TIME or earlier;",
            "names a b", "2* store 1 1", "store 0 5", "2* store 1 1", "store 0 6", "store 0 0", "at 0 2 = 5", "at 0 {3 4} = 5",
            "at 0 5 = 6", "at 0 {6 7 MAX} = 0");
        doc.edge("else STORED as it was in the oldest there;",
            "names a b", "store 0 4", "store 0 5", "store 1 1", "store 0 6", "expire 1 = 1", "at 0 0 = 4", "at 0 1 = 5",
            "expire 2 = 1", "at 0 {0 1 2} = 5", "at 0 3 = 6", "store 1 0", "at 1 {0 1} = 0", "at 1 {2 3} = 1", "at 1 4 = 0",
            "4* store 0 7", "at 0 2 = 5", "2* store 0 8", "at 0 4 = 6", "at 0 5 = 7");
        doc.edge("else, the JOURNAL being empty, STORED.",
            "names a b", "at 0 {0 MAX} = 0", "store 0 5", "expire MAX = 1", "at 0 {0 MAX} = 5", "pack", "at 0 0 = 5",
            "going 1 0:-1:6", "step 0 1 = 1", "at 0 0 = 5", "step 0 1 = 1", "at 0 0 = 5", "at 0 1 = 6");
    }

    private void listUnder() {
        doc.edge("LIST under a NAME (those of which it is a FOLDER; -1: all):",
            "names a a/b a/b/c aa aa/b a/c/d", "store 2 1", "store 3 1", "store 5 1", "list -1 0 = 2", "list -1 1 = 5",
            "list -1 2 = 3", "list 0 0 = 2", "list 0 1 = 5", "list 0 2 = -5", "list 1 0 = 2", "list 1 1 = -5",
            "list {2 3 4 5} 0 = -5");
        doc.edge("(those of which it is a FOLDER; -1: all)",
            "names f/a/b f/a f a b c d e aa bb cc ff", "list {0 1 2 11} 0 = -5", "store 0 1", "list 2 0 = 0", "list 1 0 = 0",
            "list {0 3 11} 0 = -5", "list -1 0 = 0", "store 0 0", "store 11 1", "list 2 0 = -5", "list -1 0 = 11");
        doc.edge("of these NAMES with VALUE not 0",
            "names a b c", "store 0 5", "going 1 0:-1:0 1:-1:6", "list -1 0 = 0", "list -1 1 = -5", "step 0 1 = 1",
            "list -1 0 = 1", "list -1 1 = -5", "step 0 1 = 1", "list -1 0 = 1");
        doc.edge("number k (from 0) by ORDER (-5: none).",
            "names f e d c b a ff ee dd cc bb aa", "list -1 {0 11 MAX} = -5", "do 1 0:-1:1 1:-1:1 2:-1:1 3:-1:1",
            "do 1 4:-1:1 5:-1:1 6:-1:1 7:-1:1", "do 1 8:-1:1 9:-1:1 10:-1:1 11:-1:1", "list -1 0 = 5", "list -1 1 = 11",
            "list -1 10 = 0", "list -1 11 = 6", "list -1 {12 MAX} = -5");
    }

    private void ordersOfSets() {
        doc.edge("ORDERS of a set of DEALS, none of them COMMITTING:",
            "names a", "open 1 0:-1:1 = 0", "going 0", "orders 1 = 1", "orders 2 = NONE", "orders 3 = NONE", "step 0 1 = 1",
            "orders {2 3} = NONE", "step 0 1 = 1", "orders {2 3} = NONE", "orders {0 1} = 1");
        doc.edge("in how many orders they can go, one behind another, each by STORED as it is then",
            behind(BACKWARDS, "orders 15 = 1", "orders 8 = 1", "orders {4 2 1} = 0", "orders 12 = 1", "orders 10 = 0",
                "orders 14 = 1", "orders {13 11 7} = 0", "of 0 1 = 0", "abandon 0 = 1", "open 1 1:-1:1 = 0", "orders 15 = 4",
                "orders 9 = 2"));
        doc.edge("(at first as VALUES are now)",
            "names a", "open 0 0:0:1 = 0", "open 0 0:7:1 = 1", "going 1 0:-1:7", "orders 1 = 1", "orders 2 = 0", "orders 3 = 0",
            "step 0 1 = 1", "orders 1 = 0", "orders 2 = 1", "step 0 2 = 2", "orders 2 = 1", "pack", "orders 2 = 1");
        doc.edge("with no other DEAL there:",
            "names a a/b", "ready 1 0:-1:1 = 0", "open 1 0:-1:2 = 1", "open 1 1:-1:3 = 2", "told 1 3 = 1", "told 2 3 = 3",
            "orders {2 4} = 1", "orders 6 = 0", "orders 1 = 1", "orders 3 = 2", "abandon 0 = 1", "going 1 0:-1:1",
            "orders {2 4} = 1");
        doc.edge("none of its ROWS is WRONG by 2 or 3;",
            "names a a/b b c", "open 0 2:0:1 3:1:1 = 0", "orders 1 = 0", "open 1 2:-1:1 0:-1:1 = 1", "orders 2 = 1",
            "open 1 3:-1:1 1:-1:1 = 2", "orders 4 = 1", "orders 6 = 0", "orders 5 = 1", "open 1 0:-1:0 1:-1:0 = 3",
            "orders 14 = 2", "orders 15 = 2");
        doc.edge("then all its ROWS are APPLIED.",
            "names a b c d", "open 1 0:-1:1 1:-1:2 2:-1:3 3:-1:4 = 0", "open 0 3:4:5 2:3:0 1:2:6 0:1:7 = 1", "orders 3 = 1",
            "orders 2 = 0", "could 3 0 7 = 1", "could 3 2 0 = 1", "could 3 3 5 = 1", "open 0 2:0:0 0:7:9 = 2",
            "orders 7 = 1", "could 7 0 9 = 1", "of {0 1 2 3} 1 = 0");
    }

    private void couldOfSets() {
        doc.edge("COULD of a set, a NAME, a REVISION (0 .. 999): by how many of these STORED of it is that then.",
            behind(FREE, "could 7 0 {1 2 3} = 2", "could 7 0 {0 4 999} = 0", "could 7 1 0 = 6", "could 7 1 999 = 0",
                "could 7 0 {-1 1000 MIN MAX} = BAD", "could 0 0 0 = 1", "could 0 0 1 = 0", "could 4 0 3 = 1",
                "open 1 1:-1:999 = 3", "could 15 1 999 = 24", "could 15 1 998 = 0", "could 15 0 3 = 8"));
    }

    private void fitsOfSets() {
        doc.edge("FITS of a set: by how many of these all of SEEN is so;",
            behind(FREE, "fits 7 0 = 6", "see 0 3 = 1", "fits 7 0 = 2", "see 1 0 = 2", "fits 7 0 = 2", "see 1 1 = 3",
                "fits 7 0 = 0", "see -1 0 = 0", "see 0 0 = 1", "fits 7 0 = 0", "fits 0 0 = 1", "see 0 1 = 2",
                "fits {0 7 1} 0 = 0"));
        doc.edge("the first of these orders (by the DEALS' numbers, one digit each, 1 more, the first the highest;",
            behind(FREE, "fits 7 1 = 123", "fits 6 1 = 23", "fits 4 1 = 3", "see 0 1 = 1", "fits 7 1 = 231", "fits 5 1 = 31",
                "see -1 0 = 0", "see 0 2 = 1", "fits 7 1 = 132", "deal 0 = 3", "fits 15 1 = 1324", "fits 15 0 = 8",
                "fits 10 1 = 24"));
        doc.edge("the first the highest;",
            behind(BACKWARDS, "fits 15 0 = 1", "fits 15 1 = 4321", "fits 14 1 = 432", "fits 8 1 = 4", "fits 12 1 = 43"));
        doc.edge("-5: none;",
            behind(FREE, "open 0 0:9:1 = 3", "fits {8 9 15} 1 = -5", "fits {8 9 15} 0 = 0", "see 0 4 = 1",
                "fits {1 7 0} 1 = -5", "fits {1 7 0} 0 = 0"));
        doc.edge("0: the set is empty).",
            "fits 0 1 = 0", "fits 0 0 = 1", "names a", "fits 0 1 = 0", "see 0 0 = 1", "fits 0 1 = 0", "fits 0 0 = 1",
            "deal 0 = 0", "fits 0 1 = 0", "fits 1 1 = 1", "store 0 5", "fits 0 1 = -5", "fits 0 0 = 0");
        doc.edge("SEEN told by hand: NAMES and REVISIONS (5 rows at most).",
            "names a b", "see 0 999 = 1", "see 1 0 = 2", "see 0 1000 = BAD", "see 0 -1 = BAD", "see 2 0 = NONE",
            "see 0 999 = 3", "see 0 999 = 4", "fits 0 0 = 0", "see 1 1 = 5", "see 0 0 = FULL", "count 2 = 5", "store 0 999",
            "fits 0 0 = 0", "see -1 0 = 0", "4* see 0 999", "fits 0 0 = 1", "see 1 1 = 5", "fits 0 0 = 0", "store 1 1",
            "fits 0 0 = 1");
    }

    private void mostOfAll() {
        doc.edge("MOST: the set with most DEALS",
            "names a b", "open 0 0:0:1 = 0", "open 0 0:0:2 = 1", "open 0 0:2:3 = 2", "state 6 = 6", "open 0 0:3:4 = 3",
            "state 6 = 14", "abandon 1 = 1", "state 6 = 1", "crash = 3", "open 0 0:0:1 = 0", "open 0 0:0:3 = 1",
            "open 0 0:9:9 = 2", "open 0 0:1:2 = 3", "orders {1 2 9} = 1", "state 6 = 9");
        doc.edge("(of several the least as bits),",
            "names a b", "open 0 0:0:1 = 0", "open 0 0:0:2 = 1", "open 0 0:0:3 = 2", "open 0 0:0:4 = 3", "state 6 = 1",
            "abandon 0 = 1", "state 6 = 2", "open 0 0:4:0 = 0", "state 6 = 11", "abandon 2 = 1", "open 0 0:2:5 = 2",
            "state 6 = 15", "abandon 0 = 1", "open 0 0:5:6 1:1:0 = 0", "state 6 = 6", "abandon 0 = 2", "open 0 0:4:5 = 0",
            "orders 9 = 1", "orders {13 11 7} = 0", "state 6 = 6",
            "crash = 4", "open 0 0:0:1 = 0", "open 0 0:0:3 = 1", "open 0 0:3:4 = 2", "open 0 0:1:2 = 3",
            "orders {6 9} = 1", "state 6 = 6");
        doc.edge("none COMMITTING,",
            "deal 0 = 0", "deal 0 = 1", "ready 0 = 2", "state 6 = 7", "commit 2 = 2", "state 6 = 3", "abandon 0 = 0",
            "abandon 1 = 0", "state 6 = 0", "step 0 2 = 2", "state 6 = 0");
        doc.edge("by which ORDERS isn't 0.",
            behind(BACKWARDS, "state 6 = 15", "abandon 3 = 1", "state 6 = 0", "orders {1 2 4 7} = 0", "orders 0 = 1"));
    }

    private void fractions() {
        doc.edge("ODDS of a set, a NAME, a REVISION, all ORDERS being alike likely: how likely STORED of it is that then:",
            behind(FREE, "odds 7 0 1 0 = 1", "odds 7 0 1 1 = 3", "odds 0 0 0 {0 1} = 1", "open 1 0:-1:3 = 3",
                "odds 15 0 3 0 = 1", "odds 15 0 3 1 = 2", "odds 15 0 1 0 = 1", "odds 15 0 1 1 = 4"));
        doc.edge("a fraction in lowest terms (NO: there are none). MEAN:",
            behind(FREE, "odds 7 0 9 0 = 0", "odds 7 0 9 1 = 1", "odds 7 1 0 {0 1} = 1", "odds 0 0 1 0 = 0",
                "odds 0 0 1 1 = 1", "open 0 0:9:1 = 3", "odds {8 9 15} 0 1 {0 1} = NO", "abandon 3 = 1",
                "open 1 0:-1:1 = 3", "abandon 2 = 1", "odds 11 0 1 0 = 2", "odds 11 0 1 1 = 3"));
        doc.edge("MEAN: how many JOURNALS have, together, by how many NAMES there are:",
            "names a b c", "store 0 1", "store 0 0", "store 1 5", "store 2 1", "mean 0 = 4", "mean 1 = 3", "expire 1 = 1",
            "mean {0 1} = 1", "spell d = 3", "mean 0 = 3", "mean 1 = 4");
        doc.edge("together, by how many NAMES there are: a fraction in lowest terms (NO: there are none).",
            "mean {0 1} = NO", "spell a = 0", "mean 0 = 0", "mean 1 = 1", "names b c d e f aa bb cc dd ee ff",
            "mean 0 = 0", "mean 1 = 1", "store 0 1", "mean 0 = 1", "mean 1 = 12", "7* store 0 2", "mean 0 = 1", "mean 1 = 2",
            "6* do 1 0:-1:1 1:-1:1 2:-1:1 3:-1:1", "mean 0 = 2", "mean 1 = 1", "6* do 1 4:-1:1 5:-1:1 6:-1:1 7:-1:1",
            "mean 0 = 4", "mean 1 = 1", "6* do 1 8:-1:1 9:-1:1 10:-1:1 11:-1:1", "mean 0 = 6", "mean 1 = 1");
    }

    private void planned() {
        doc.edge("A PLAN told by hand: what goes (0 a STEP of the one COMMITTING,",
            "names a b", "store 0 5", "plan 0 0 = 1", "ends 0 = 5", "going 1 0:-1:0 1:-1:7", "ends 0 = 0", "ends 1 = 7",
            "plan 2 0 = 2", "ends 0 = 0", "ends 1 = 7", "plan -1 0 = 0", "ends 0 = 5", "ends 1 = 0");
        doc.edge("1 a STEP of the REPACK, if there is one,",
            "names a b", "do 1 0:-1:5 1:-1:6", "3* plan 1 0", "plan 3 0 = 4", "plan 3 1 = 5", "ends {0 1} = 0", "repack = 2",
            "ends 0 = 5", "ends 1 = 6", "plan -1 0 = 0", "2* plan 1 0", "plan 3 0 = 3", "ends 0 = 0", "step 1 1 = 1",
            "ends 0 = 5");
        doc.edge("2 a CRASH,",
            "names a b", "store 0 5", "repack = 1", "plan 2 0 = 1", "plan 1 0 = 2", "plan 1 0 = 3", "plan 3 0 = 4", "ends 0 = 0",
            "plan -1 0 = 0", "going 1 1:-1:7", "plan 2 0 = 1", "plan 0 0 = 2", "ends 1 = 0", "plan -1 0 = 0", "plan 0 0 = 1",
            "plan 2 0 = 2", "ends 1 = 7");
        doc.edge("3 NAME n has no LOOSE REVISION;",
            "names a b", "plan 3 0 = 1", "plan 3 1 = 2", "ends {0 1} = 0", "store 0 5", "pack", "ends 0 = 5", "store 0 6",
            "store 1 7", "ends 0 = 5", "ends 1 = 0", "of 0 2 = 6", "of 1 2 = 7");
        doc.edge("10 rows at most): ENDS: VALUE of a NAME then.",
            "names a b c d", "going 1 0:-1:1 1:-1:2 2:-1:3 3:-1:4", "6* plan 0 0", "ends 3 = 4", "plan 2 0 = 7", "plan 3 0 = 8",
            "plan 3 1 = 9", "ends 2 = 3", "plan 3 2 = 10", "plan 3 3 = FULL", "ends {0 1 2} = 0", "ends 3 = 4", "count 3 = 10",
            "state 2 = 6");
    }

    private void booked() {
        doc.edge("A BOOK told by hand: NAMES, VALUES (8 at most):",
            "names a b", "store 1 999", "7* book 0 0", "looked = -5", "book 1 1000 = BAD", "book 1 -1 = BAD",
            "book 2 0 = NONE", "book 1 999 = 8", "book 1 0 = FULL", "looked = -5", "store 1 998", "looked = 7");
        doc.edge("LOOKED at: the number (from 0) of the first of these rows by which it is otherwise now (-5: none).",
            "names a b", "looked = -5", "book 0 0 = 1", "book 1 0 = 2", "book 1 6 = 3", "looked = 2", "going 1 1:-1:6",
            "looked = 2", "step 0 1 = 1", "looked = 1", "step 0 2 = 2", "looked = 1", "store 0 5", "looked = 0",
            "book -1 0 = 0", "looked = -5", "book 0 5 = 1", "looked = -5");
    }

    private void imaged() {
        doc.edge("THE IMAGE: NAMES that came,",
            "names b a/c", "image = 2", "spell a = 2", "of 1 7 = 1", "undo = 2", "count 0 = 2", "of 2 0 = NONE", "of 1 7 = 0",
            "spell a = 2", "undo = 2", "spell c = 2", "spell a = 3", "folder 2 1 = 0", "folder 3 1 = 1", "spell b = 0", "image = 4",
            "spell b/a = 4", "wrong 1 0:-1:1 4:-1:1 = 3", "undo = 4", "spell d = 4", "wrong 1 0:-1:1 4:-1:1 = 0",
            "spell b/a = 5", "wrong 1 4:-1:1 0:-1:1 5:-1:1 = 13");
        doc.edge("REVISIONS,",
            "names a b", "store 0 5", "pack", "store 0 6", "store 1 7", "image = 2", "store 0 0", "store 1 8", "pack",
            "undo = 2", "of 0 2 = 6", "of 0 3 = 5", "of 1 2 = 7", "of 1 3 = 0", "repack = 2", "step 1 2 = 2", "image = 2",
            "step 1 1 = 1", "undo = 2", "of 0 2 = 6", "of 0 3 = 5", "of 1 2 = 7", "of 1 3 = 0", "step 1 1 = 1", "image = 2",
            "store 0 9", "store 1 0", "undo = 2", "of {0 1} 2 = 0", "of 0 3 = 6", "of 1 3 = 7");
        doc.edge("TIME, DEALS with all that is theirs,",
            "names a b c", "store 0 5", "open 2 0:5:6 1:-1:0 = 0", "ready 3 2:-1:9 = 1", "image = 3", "crash = 2", "store 0 1",
            "open 1 1:0:1 = 0", "open 0 2:1:2 0:3:4 1:5:6 = 1", "deal 3 = 2", "undo = 3", "state 0 = 1", "state 5 = 3",
            "told 0 0 = 2", "told 0 1 = 2", "told 0 {2 3} = 0", "told 1 0 = 3", "told 1 {1 2} = 1", "told 1 3 = 0",
            "of 2 6 = 1", "of {0 1} 6 = -5", "could 1 0 6 = 1", "prepare 0 = 0", "commit 0 = 4", "step 0 20 = 4",
            "of 0 1 = 6", "of 1 5 = 1");
        doc.edge("RECORD, REPACK, JOURNALS,",
            "names a b", "store 0 5", "store 1 4", "repack = 2", "step 1 1 = 1", "going 1 0:-1:6 1:-1:7", "step 0 2 = 2",
            "image = 2", "step 0 20 = 2", "step 1 20 = 2", "store 0 8", "expire MAX = 5", "store 0 9", "store 0 1",
            "4* store 1 2", "undo = 2", "state {1 3 4} = 1", "state 2 = 2", "of 0 5 = 2", "of 1 5 = 1", "journal 0 0 0 = 0",
            "journal 0 0 1 = 0", "journal 0 0 2 = 5", "journal 0 1 0 = 2", "journal 0 1 1 = 5", "journal 0 1 2 = 6",
            "journal 1 0 0 = 1", "journal 1 0 1 = 0", "journal 1 0 2 = 4", "of 1 0 = 7", "of 1 1 = 4",
            "step 0 20 = 2", "step 1 20 = 2", "of 0 2 = 6", "of 0 3 = 5", "of 1 2 = 0", "of 1 3 = 7");
        doc.edge("SEEN, the PLAN, the BOOK.",
            "names a b", "store 0 5", "see 0 5 = 1", "see 1 0 = 2", "plan 3 0 = 1", "book 0 5 = 1", "book 1 1 = 2", "image = 2",
            "see -1 0 = 0", "see 0 4 = 1", "plan 2 0 = 2", "plan -1 0 = 0", "book -1 0 = 0", "book 0 4 = 1", "undo = 2",
            "count {2 4} = 2", "count 3 = 1", "fits 0 0 = 1", "ends 0 = 0", "looked = 1", "see 1 1 = 3", "fits 0 0 = 0");
    }

    private void after() {
        doc.in("Promise 20");
        doc.edge("AFTER n STEPS of a kind and a CRASH VALUE of a NAME.",
            "names a", "going 1 0:-1:5", "after 0 0 0 = 0", "after 0 {1 2 3 4 9} 0 = 5", "after 1 9 0 = 0");
        doc.edge("NONE: kind, name; BAD: n.",
            "after {0 1} 0 0 = NONE", "names a", "after {-1 2 MIN MAX} 0 0 = NONE", "after 0 0 {-1 1 12 MIN MAX} = NONE",
            "after {-1 0} {-1 10} 1 = NONE", "after 2 10 0 = NONE", "after {0 1} {-1 10 MIN MAX} 0 = BAD", "after {0 1} {0 9} 0 = 0");
    }

    private void orders() {
        doc.in("Promise 21");
        doc.edge("ORDERS of a set.", "names a", "see 0 9 = 1", "orders 0 = 1", "deal 0 = 0", "orders 1 = 1", "deal 0 = 1", "orders 3 = 2", "deal 0 = 2",
            "orders 7 = 6", "deal 0 = 3", "orders 15 = 24", "orders {11 13 14} = 6");
        doc.edge("NONE.",
            "orders {-1 1 15 16 MIN MAX} = NONE", "deal 0 = 0", "deal 0 = 1", "abandon 0 = 0", "orders 2 = 1",
            "orders {1 3 4 16 18 -1 -2 MIN MAX} = NONE", "prepare 1 = 0", "orders 2 = 1", "commit 1 = 2", "orders 2 = NONE",
            "orders 0 = 1");
    }

    private void could() {
        doc.in("Promise 22");
        doc.edge("COULD.", "names a", "open 1 0:-1:999 = 0", "could 1 0 999 = 1", "could 1 0 0 = 0", "could 0 0 0 = 1");
        doc.edge("NONE: set, name; BAD: v.",
            "could 0 0 0 = NONE", "names a", "could {-1 1 16 MIN MAX} 0 0 = NONE", "could 0 {-1 1 12 MIN MAX} 0 = NONE",
            "could 1 0 1000 = NONE", "could 0 1 -1 = NONE", "could 0 0 {-1 1000 MIN MAX} = BAD", "could 0 0 999 = 0",
            "could 0 0 0 = 1", "going 0", "could 1 0 0 = NONE");
    }

    private void see() {
        doc.in("Promise 23");
        doc.edge("What is SEEN comes: how many there are (name -1: none then, 0, whatever the rest is).",
            "names a", "see -1 0 = 0", "see 0 0 = 1", "see 0 5 = 2", "fits 0 0 = 0", "see -1 {0 -1 1000 MIN MAX} = 0",
            "count 2 = 0", "fits 0 0 = 1", "see 0 5 = 1", "4* see 0 5", "see -1 MAX = 0", "see 0 0 = 1", "fits 0 0 = 1");
        doc.edge("NONE; BAD: v; FULL: 5.",
            "see 0 0 = NONE", "names a", "see {-2 1 12 MIN MAX} 0 = NONE", "see {-2 1} {-1 1000} = NONE",
            "see 0 {-1 1000 MIN MAX} = BAD", "see 0 999 = 1", "see 0 0 = 2", "see 0 0 = 3", "see 0 0 = 4", "see 0 0 = 5",
            "see 0 {0 999} = FULL", "see 0 {-1 1000} = BAD", "see {-2 1} 0 = NONE", "count 2 = 5");
    }

    private void fits() {
        doc.in("Promise 24");
        doc.edge("FITS of a set: what 0 how many, 1 the first (digits; -5).",
            "fits 0 0 = 1", "fits 0 1 = 0", "names a", "3* deal 0", "open 0 0:5:1 = 3", "fits 7 0 = 6", "fits 7 1 = 123",
            "fits 15 0 = 0", "fits 15 1 = -5", "abandon 3 = 1", "deal 0 = 3", "fits 15 0 = 24", "fits 15 1 = 1234",
            "fits 8 1 = 4", "fits 9 1 = 14");
        doc.edge("NONE.",
            "fits {-1 1 16 MIN MAX} 0 = NONE", "fits 0 {-1 2 MIN MAX} = NONE", "going 0", "fits 1 {0 1} = NONE",
            "fits 0 0 = 1");
    }

    private void odds() {
        doc.in("Promise 25");
        doc.edge("ODDS; part 0 above, 1 below the line.",
            behind(FREE, "see 0 1 = 1", "odds 3 0 2 0 = 1", "odds 3 0 2 1 = 2", "odds 3 0 3 0 = 0", "odds 3 0 3 1 = 1"));
        doc.edge("NO: set, name, v, part.",
            "odds 0 0 0 0 = NO", "names a", "odds 0 0 0 {0 1} = 1", "odds {-1 1 16 MIN MAX} 0 0 0 = NO",
            "odds 0 {-1 1 12 MIN MAX} 0 0 = NO", "odds 0 0 {-1 1000 MIN MAX} 0 = NO", "odds 0 0 0 {-1 2 MIN MAX} = NO",
            "odds 0 0 999 0 = 0", "odds 0 0 999 1 = 1", "going 0", "odds 1 0 0 0 = NO");
    }

    private void mean() {
        doc.in("Promise 26");
        doc.edge("MEAN; part likewise.", "names a b c", "5* store 1 7", "mean 0 = 5", "mean 1 = 3", "store 0 1", "mean 0 = 2",
            "mean 1 = 1");
        doc.edge("NO.", "mean {0 1} = NO", "names a", "mean {-1 2 MIN MAX} = NO", "mean 0 = 0", "mean 1 = 1");
    }

    private void plan() {
        doc.in("Promise 27");
        doc.edge("A row comes to the PLAN: how many there are (what -1: it is empty then, 0, whatever the rest is).",
            "names a", "store 0 5", "plan -1 0 = 0", "plan 3 0 = 1", "plan 2 0 = 2", "ends 0 = 0",
            "plan -1 {-1 1 MIN MAX} = 0", "count 3 = 0", "ends 0 = 5", "10* plan 2 0", "plan -1 0 = 0", "plan 3 0 = 1",
            "ends 0 = 0");
        doc.edge("NONE: what (0 .. 3), name (by 3; by others n does not matter);",
            "plan {-2 4 MIN MAX} 0 = NONE", "plan 3 0 = NONE", "names a", "plan {-2 4} 0 = NONE",
            "plan 3 {-1 1 12 MIN MAX} = NONE", "plan 3 0 = 1", "plan 0 MIN = 2", "plan 0 12 = 3", "plan 1 MAX = 4",
            "plan 1 -1 = 5", "plan 2 1 = 6", "plan 2 MIN = 7", "ends 0 = 0");
        doc.edge("FULL: 10.",
            "names a", "8* plan 0 0", "plan 1 0 = 9", "plan 3 0 = 10", "plan {0 1 2 3} 0 = FULL", "plan {-2 4} 0 = NONE",
            "plan 3 1 = NONE", "count 3 = 10");
    }

    private void ends() {
        doc.in("Promise 28");
        doc.edge("ENDS of a NAME.", "names a b", "store 0 5", "ends 0 = 5", "ends 1 = 0", "plan 3 0 = 1", "ends 0 = 0",
            "of 0 1 = 5");
        doc.edge("NONE.", "ends 0 = NONE", "names a", "ends {-1 1 12 MIN MAX} = NONE", "ends 0 = 0");
    }

    private void book() {
        doc.in("Promise 29");
        doc.edge("A row comes to the BOOK: how many there are (name -1: it is empty then, 0, whatever the rest is).",
            "names a", "book -1 0 = 0", "book 0 0 = 1", "book 0 5 = 2", "looked = 1", "book -1 {0 -1 1000 MIN MAX} = 0",
            "count 4 = 0", "looked = -5", "8* book 0 5", "book -1 0 = 0", "book 0 0 = 1", "looked = -5");
        doc.edge("NONE; BAD: v; FULL: 8.",
            "book 0 0 = NONE", "names a", "book {-2 1 12 MIN MAX} 0 = NONE", "book {-2 1} {-1 1000} = NONE",
            "book 0 {-1 1000 MIN MAX} = BAD", "book 0 999 = 1", "book 0 0 = 2", "5* book 0 0", "book 0 0 = 8",
            "book 0 {0 999} = FULL", "book 0 {-1 1000} = BAD", "book {-2 1} 0 = NONE", "count 4 = 8");
    }

    private void looked() {
        doc.in("Promise 30");
        doc.edge("LOOKED at; -5.", "looked = -5", "names a", "looked = -5", "7* book 0 0", "looked = -5", "book 0 1 = 8",
            "looked = 7", "store 0 1", "looked = 0");
    }
}
