/** What the document says of tapes, of judging and of the image: Terms, part 3, and promises 31 to 39. */
final class EdgesOfTapes {
    private final Edges doc;

    private EdgesOfTapes(Edges doc) {
        this.doc = doc;
    }

    static void tell(Edges doc) {
        EdgesOfTapes it = new EdgesOfTapes(doc);
        it.tapes();
        it.judged();
        it.refusalsOfHost();
        it.judge();
        it.image();
        it.undo();
        it.taken();
        it.count();
        it.tape();
        it.item();
        it.read();
        it.shift();
        it.shiftRefused();
    }

    private void tapes() {
        doc.in("Terms 3");
        doc.edge("TAPES 0 .. 5 hold nothing (at first),",
            "read {0 1 2 3 4 5} 0 = NO", "item {0 5} 0 1 = NOTHING", "item {-1 6 MIN MAX} 0 1 = NONE", "row 5 0 7",
            "row 0 0 8", "read 5 0 = 7", "read 0 0 = 8", "read {1 2 3 4 -1 6} 0 = NO", "tape 6 0 1 = NONE",
            "tape -1 0 1 = NONE");
        doc.edge("or a row of 0 bytes,", "row 0 0 127 128 -128 -129 255 256 0", "read 0 0 = 127", "read 0 1 = -128",
            "read 0 2 = -128", "read 0 3 = 127", "read 0 4 = -1", "read 0 5 = 0", "read 0 6 = 0");
        doc.edge("1 shorts,", "row 0 1 32767 32768 -32768 -32769 65535 65536", "read 0 0 = 32767", "read 0 1 = -32768",
            "read 0 2 = -32768", "read 0 3 = 32767", "read 0 4 = -1", "read 0 5 = 0");
        doc.edge("2 ints,", "row 0 2 MAX 2147483648 MIN -2147483649 4294967295 4294967296", "read 0 0 = MAX", "read 0 1 = MIN",
            "read 0 2 = MIN", "read 0 3 = MAX", "read 0 4 = -1", "read 0 5 = 0");
        doc.edge("3 longs,", "row 0 3 LONGEST NO -1 4294967296", "read 0 0 = LONGEST", "read 0 1 = NO", "read 0 2 = -1",
            "read 0 3 = 4294967296");
        doc.edge("4 booleans (items 0, 1).", "row 0 4 0 1 2 -1 256 4294967296 NO", "read 0 0 = 0", "read 0 {1 2 3 4 5 6} = 1");
    }

    private void judged() {
        doc.edge("VALUES of NAMES told by a row of ints, from a place on, NAME by NAME, are JUDGED:",
            "names b a", "store 0 5", "store 1 6", "row 0 2 9 5 6 5 6", "judge 0 {1 3} = -5", "judge 0 {0 2} = 0",
            "going 1 0:-1:6 1:-1:5", "judge 0 1 = -5", "judge 0 2 = 0", "step 0 1 = 1", "judge 0 2 = -5", "judge 0 1 = 0");
        doc.edge("the first that is otherwise (counted from 0 from that place on);",
            "names a b c", "store 1 7", "row 0 2 0 7 1 7 0 7 0", "judge 0 0 = 2", "judge 0 1 = 0", "judge 0 4 = -5",
            "judge 0 2 = 0", "item 0 4 4294967296 = 1", "judge 0 4 = -5", "item 0 5 6 = 1", "judge 0 4 = 1",
            "item 0 4 1 = 1", "judge 0 4 = 0");
        doc.edge("-5: none, or there are no NAMES (wherever the place is, also if the TAPE holds nothing);",
            "judge {0 5} {0 -1 1 59 60 MIN MAX} = -5", "row 0 2", "judge 0 {0 -1 1 MAX} = -5", "row 1 2 1 2",
            "judge 1 {0 -1 1 2 3 MIN MAX} = -5", "names a", "judge 1 0 = 0", "judge {0 2} 0 = 100");
        doc.edge("100 and how many were looked at, if the row ends ahead of that",
            "names a b c", "row 0 2 0 0 0 0", "judge 0 {0 1} = -5", "judge 0 2 = 102", "judge 0 3 = 101",
            "judge 0 {4 5 60 MAX} = 100", "item 0 3 1 = 1", "judge 0 1 = 2", "judge 0 2 = 1", "judge 0 3 = 0", "row 1 2",
            "judge 1 {0 1} = 100", "tape 2 2 60 = 1", "judge 2 57 = -5", "judge 2 58 = 102", "judge 2 59 = 101",
            "judge 2 60 = 100");
        doc.edge("(or the place is below 0, or the TAPE holds nothing).",
            "names a", "row 0 2 0 0", "judge 0 {-1 -2 MIN} = 100", "judge 0 0 = -5", "judge 1 {-1 0 1 MIN MAX} = 100",
            "tape 0 -1 0 = 1", "judge 0 {-1 0 1} = 100");
    }

    private void refusalsOfHost() {
        doc.edge("The host's refusals: NOTHING (-11): nothing is there;",
            "item 0 0 0 = -11", "taken 0 0 = -11", "shift 0 0 1 0 0 = -11", "row 0 0 1", "item 0 0 0 = 1",
            "shift 0 0 1 0 0 = -11", "shift 1 0 0 0 0 = -11", "row 1 0", "shift 0 0 1 0 0 = 0", "deal 0 = 0", "taken 0 0 = 0");
        doc.edge("CAST (-12): another sort or KIND;",
            "row 0 0 1", "row 1 1 1", "shift 0 0 1 0 1 = -12", "judge 0 0 = -12", "deal 0 = 0", "taken 0 1 = -12");
        doc.edge("PLACE (-13): no such place;",
            "row 0 0 1", "item 0 {-1 1 MIN MAX} 0 = -13", "shift 0 1 0 0 1 = -13", "item 0 0 9 = 1");
        doc.edge("SIZE (-14): a size below 0.",
            "tape 0 0 -1 = -14", "tape 0 {0 1 2 3 4} MIN = -14", "tape 0 0 0 = 1");
    }

    private void judge() {
        doc.in("Promise 31");
        doc.edge("JUDGED from place i of a TAPE on.", "names a b", "store 1 5", "row 5 2 0 0 5", "judge 5 1 = -5", "judge 5 0 = 1",
            "judge 5 2 = 0", "judge 5 3 = 100");
        doc.edge("NONE: tape; CAST: it is no row of ints.",
            "judge {-1 6 MIN MAX} {0 -1} = NONE", "row 0 0 0 0", "judge 0 {0 -1 9} = CAST", "names a", "judge 0 {0 -1 9} = CAST",
            "row 0 1 0", "judge 0 0 = CAST", "row 0 3 0", "judge 0 0 = CAST", "row 0 4 0", "judge 0 0 = CAST", "row 0 3",
            "judge 0 0 = CAST", "row 0 2 0", "judge 0 0 = -5", "tape 0 -1 0 = 1", "judge 0 0 = 100", "judge {-1 6} 0 = NONE");
    }

    private void image() {
        doc.in("Promise 32");
        doc.edge("THE IMAGE is taken: how many NAMES there are.",
            "image = 0", "names a", "image = 1", "names b c d e f aa bb cc dd ee ff", "image = 12", "undo = 12", "store 0 5",
            "image = 12", "store 0 6", "undo = 12", "of 0 1 = 5", "undo = 12", "of 0 1 = 5");
    }

    private void undo() {
        doc.in("Promise 33");
        doc.edge("All is as THE IMAGE: how many NAMES.",
            "image = 0", "names a b", "store 0 5", "undo = 0", "count 0 = 0", "state 0 = 0", "of 0 0 = NONE", "spell b = 0",
            "of 0 {1 2 3 5} = 0", "image = 1", "names a c d e f aa bb cc dd ee ff", "spell ac = FULL", "row 3 0 7",
            "text ab", "undo = 1", "count 0 = 1", "count 5 = 2", "read 3 0 = 7", "name = 1", "undo = 1", "undo = 1");
        doc.edge("STATE: there is none.", "undo = STATE", "names a", "store 0 5", "undo = STATE", "of 0 1 = 5", "image = 1",
            "undo = 1");
    }

    private void taken() {
        doc.in("Promise 34");
        doc.edge("A DEAL taken for one of KIND k (0 .. 3), or one under that: its KIND.",
            "deal 3 = 0", "deal 2 = 1", "deal 1 = 2", "deal 0 = 3", "taken 0 {0 1 3} = 3", "taken 1 {0 2} = 2",
            "taken 2 {0 1} = 1", "taken 3 0 = 0", "prepare 0 = 0", "taken 0 1 = 3", "commit 0 = 2", "taken 0 1 = 3");
        doc.edge("BAD: k; NOTHING: no such DEAL; CAST.",
            "taken 0 {-1 4 MIN MAX} = BAD", "taken 0 {0 3} = NOTHING", "deal 3 = 0", "taken 0 {-1 4 MIN MAX} = BAD",
            "taken {-1 1 3 4 MIN MAX} {0 3} = NOTHING", "taken 4 4 = BAD", "taken 0 2 = CAST", "abandon 0 = 0",
            "taken 0 2 = NOTHING", "deal 2 = 0", "taken 0 {1 3} = CAST", "deal 1 = 1", "taken 1 {2 3} = CAST", "deal 0 = 2",
            "taken 2 {1 2 3} = CAST");
    }

    private void count() {
        doc.in("Promise 35");
        doc.edge("How many: 0 NAMES,", "count 0 = 0", "names a b c d e f aa bb cc dd ee ff", "count 0 = 12", "spell a = 0",
            "count 0 = 12");
        doc.edge("1 DEALS,", "count 1 = 0", "4* deal 0", "count 1 = 4", "abandon 0 = 0", "count 1 = 3", "prepare 3 = 0",
            "commit 3 = 2", "step 0 1 = 1", "count 1 = 3", "step 0 1 = 1", "count 1 = 2");
        doc.edge("2 SEEN,", "names a", "count 2 = 0", "5* see 0 0", "count 2 = 5", "see 0 0 = FULL", "count 2 = 5");
        doc.edge("3 of the PLAN,", "count 3 = 0", "10* plan 2 0", "count 3 = 10", "plan 2 0 = FULL", "count 3 = 10");
        doc.edge("4 of the BOOK,", "names a", "count 4 = 0", "8* book 0 0", "count 4 = 8", "book 0 0 = FULL", "count 4 = 8");
        doc.edge("5 bytes of THE TEXT.", "count 5 = 0", "100* feed 0", "count 5 = 100", "feed 0 = FULL", "count 5 = 100",
            "name = -10", "count 5 = 0");
        doc.edge("BAD.", "count {-1 6 MIN MAX} = BAD", "count 5 = 0");
    }

    private void tape() {
        doc.in("Promise 36");
        doc.edge("A TAPE becomes a row of n (0 .. 60) of a sort, all 0,",
            "tape 0 {0 1 2 3 4} 60 = 1", "tape 0 0 60 = 1", "item 0 59 7 = 1", "item 0 0 8 = 1", "read 0 59 = 7",
            "read 0 60 = NO", "tape 0 0 60 = 1", "read 0 {0 59} = 0", "item 0 59 7 = 1", "tape 0 3 1 = 1", "read 0 0 = 0",
            "read 0 1 = NO", "tape 0 0 60 = 1", "read 0 59 = 0", "tape 0 1 0 = 1", "read 0 0 = NO", "item 0 0 0 = PLACE",
            "tape 0 4 59 = 1", "read 0 58 = 0", "read 0 59 = NO");
        doc.edge("or holds nothing (sort -1: n does not matter): 1.",
            "tape 0 -1 0 = 1", "row 0 2 5", "tape 0 -1 {0 -1 61 MIN MAX} = 1", "read 0 0 = NO", "item 0 0 0 = NOTHING",
            "row 0 2 5", "tape 0 -1 61 = 1", "item 0 0 0 = NOTHING");
        doc.edge("NONE: tape; BAD: sort, n above 60; SIZE.",
            "row 0 2 5", "tape {-1 6 MIN MAX} 0 1 = NONE", "tape {-1 6} {5 -2} {-1 61} = NONE", "tape 0 {-2 5 MIN MAX} 1 = BAD",
            "tape 0 {-2 5} {-1 61} = BAD", "tape 0 {0 1 2 3 4} {61 MAX} = BAD", "tape 0 {0 1 2 3 4} {-1 MIN} = SIZE",
            "read 0 0 = 5", "tape 0 4 60 = 1", "tape 5 0 0 = 1");
    }

    private void item() {
        doc.in("Promise 37");
        doc.edge("Item i of a TAPE becomes v (its lowest bits, as many as an item has;",
            "row 0 0 0 0", "item 0 0 128 = 1", "read 0 0 = -128", "read 0 1 = 0", "item 0 1 256 = 1", "read 0 1 = 0",
            "item 0 1 -257 = 1", "read 0 1 = -1", "row 1 1 0", "item 1 0 32768 = 1", "read 1 0 = -32768", "item 1 0 LONGEST = 1",
            "read 1 0 = -1", "item 1 0 NO = 1", "read 1 0 = 0", "row 2 2 0", "item 2 0 2147483648 = 1", "read 2 0 = MIN",
            "item 2 0 LONGEST = 1", "read 2 0 = -1", "row 3 3 0", "item 3 0 LONGEST = 1", "read 3 0 = LONGEST",
            "item 3 0 NO = 1", "read 3 0 = NO", "item 3 1 0 = PLACE");
        doc.edge("booleans: whether v is not 0): 1.",
            "row 0 4 0 0", "item 0 0 2 = 1", "read 0 0 = 1", "item 0 0 0 = 1", "read 0 0 = 0",
            "item 0 0 {1 -1 256 65536 4294967296 NO} = 1", "read 0 0 = 1", "read 0 1 = 0");
        doc.edge("NONE; NOTHING; PLACE.",
            "item {-1 6 MIN MAX} 0 1 = NONE", "item 0 {-1 0 60} 1 = NOTHING", "row 0 0 5 6", "item 0 {-1 2 60 MIN MAX} 1 = PLACE",
            "item 6 -1 1 = NONE", "item 1 -1 1 = NOTHING", "read 0 0 = 5", "read 0 1 = 6", "row 0 0", "item 0 0 1 = PLACE");
    }

    private void read() {
        doc.in("Promise 38");
        doc.edge("Item i of a TAPE.", "tape 0 3 60 = 1", "item 0 59 -5 = 1", "item 0 0 9 = 1", "read 0 59 = -5", "read 0 0 = 9",
            "read 0 58 = 0");
        doc.edge("NO: no such TAPE, nothing there, no such place.",
            "read {-1 6 MIN MAX} 0 = NO", "read 0 {-1 0 59 60 MIN MAX} = NO", "row 0 2 1 2", "read 0 {-1 2 59 60 MIN MAX} = NO",
            "read 0 1 = 2", "tape 0 -1 0 = 1", "read 0 {0 1} = NO", "row 0 2", "read 0 {-1 0} = NO");
    }

    private void shift() {
        doc.in("Promise 39");
        doc.edge("n items of a TAPE from i on come to another one (or the same) from j on, as they all were before: n.",
            "row 0 0 1 2 3 4 5", "row 1 0 9 9 9", "shift 0 2 1 0 3 = 3", "read 1 0 = 3", "read 1 1 = 4", "read 1 2 = 5",
            "read 0 2 = 3", "shift 0 0 0 1 4 = 4", "read 0 {0 1} = 1", "read 0 2 = 2", "read 0 3 = 3", "read 0 4 = 4",
            "shift 0 1 0 0 4 = 4", "read 0 0 = 1", "read 0 1 = 2", "read 0 2 = 3", "read 0 {3 4} = 4", "shift 0 0 0 0 5 = 5",
            "shift 1 1 0 4 1 = 1", "read 0 4 = 4", "read 0 3 = 4", "shift 0 5 1 3 0 = 0", "shift 0 0 1 0 0 = 0", "read 1 0 = 3");
        doc.edge("as they all were before: n.",
            "tape 0 3 60 = 1", "tape 1 3 60 = 1", "item 0 0 NO = 1", "item 0 59 LONGEST = 1", "shift 0 0 1 0 60 = 60",
            "read 1 0 = NO", "read 1 59 = LONGEST", "shift 1 0 1 1 59 = 59", "read 1 {0 1} = NO", "read 1 59 = 0",
            "shift 0 59 1 59 1 = 1", "read 1 59 = LONGEST", "row 2 4 1 0", "row 3 4 0 0", "shift 2 0 3 1 1 = 1", "read 3 1 = 1",
            "read 3 0 = 0");
    }

    private void shiftRefused() {
        doc.edge("NONE: tapes; NOTHING; CAST: of unlike sorts;",
            "row 0 0 1", "row 1 1 1", "row 2 2 1", "row 3 3 1", "row 4 4 1", "shift {-1 6 MIN MAX} 0 0 0 0 = NONE",
            "shift 0 0 {-1 6 MIN MAX} 0 0 = NONE", "shift 5 0 6 0 0 = NONE", "shift 5 0 5 0 0 = NOTHING",
            "shift {0 1} 0 5 0 0 = NOTHING", "shift 5 0 {0 1} 0 -1 = NOTHING", "shift 0 0 {1 2 3 4} 0 {0 1} = CAST",
            "shift 4 0 {0 1 2 3} 0 1 = CAST", "shift 2 0 3 0 -1 = CAST", "shift 3 9 2 9 9 = CAST", "shift 4 0 4 0 1 = 1");
        doc.edge("PLACE: n, i or j is below 0, or beyond either's end.",
            "row 0 0 1 2 3", "row 1 0 4 5", "shift 0 0 1 0 {-1 MIN} = PLACE", "shift 0 {-1 MIN} 1 0 {0 1} = PLACE",
            "shift 0 0 1 {-1 MIN} {0 1} = PLACE", "shift 0 0 1 0 {3 MAX} = PLACE", "shift 0 1 1 1 2 = PLACE",
            "shift 0 2 1 0 2 = PLACE", "shift 0 {3 4 MAX} 1 0 1 = PLACE", "shift 0 0 1 {2 3 MAX} 1 = PLACE",
            "shift 0 {4 MAX} 1 0 0 = PLACE", "shift 0 0 1 {3 MAX} 0 = PLACE", "shift 0 MAX 1 MAX MAX = PLACE",
            "shift 0 1 1 0 MAX = PLACE", "shift 0 3 1 2 0 = 0", "shift 0 1 1 0 2 = 2", "read 1 0 = 2", "read 1 1 = 3",
            "shift 1 0 0 1 2 = 2", "shift 1 0 0 2 2 = PLACE", "shift 0 0 0 0 3 = 3", "shift 0 0 0 1 3 = PLACE",
            "shift 0 0 0 0 4 = PLACE");
    }
}
