import java.util.ArrayList;
import java.util.Arrays;
import java.util.List;

/** What the document says of answers: what they mean, which one is named first, and that they change nothing. */
final class EdgesOfAnswers {
    // A deal whose record is written, one with something wrong, one that is prepared, a repack that reached name 0.
    private static final String[] UNDER_WAY = {
        "names a b a/b c d", "store 0 5", "pack", "do 1 0:-1:6 4:-1:3", "row 0 2 1 2 3", "row 1 0 7",
        "going 1 1:-1:7 4:-1:0 = 0", "step 0 1 = 1", "open 0 2:1:9 = 1", "ready 1 3:-1:4 = 2", "repack = 2", "step 1 1 = 1",
        "see 0 6 = 1", "plan 3 0 = 1", "book 0 6 = 1"};
    private static final String[] GONE_ON = {
        "step 0 1 = 1", "see 3 4 = 2", "plan 2 0 = 2", "book 3 0 = 2", "row 2 2 6 7 0 0 0", "text ab"};
    private static final String[] ASKED = {
        "of 0 {0 1 2} = 6", "of 0 3 = 5", "of 0 4 = 1", "of 0 5 = 2", "of 0 6 = -5", "of 0 7 = 0", "of 4 0 = 0", "of 4 1 = 3",
        "of 4 6 = 0", "of 3 6 = 2", "of 1 7 = 2", "folder 0 2 = 1", "folder 2 0 = 0", "list -1 0 = 0", "list -1 1 = 1",
        "list -1 2 = -5", "list 0 0 = -5", "journal 0 1 0 = 1", "journal 0 1 1 = 5", "journal 0 1 2 = 6", "at 0 0 = 5",
        "at 0 1 = 6", "at 4 0 = 0", "at 1 2 = 7", "at 3 0 = 0", "told 0 0 = 1", "told 0 {1 2} = 2", "told 0 3 = 0",
        "told 1 {0 2} = 0", "told 1 3 = 2", "told 2 {0 1 2} = 1", "state {0 2} = 2", "state {1 3 4} = 1", "state 5 = 7",
        "state 6 = 4", "after 0 {0 9} 4 = 0", "after 0 9 1 = 7", "after 1 9 0 = 6", "orders {0 4} = 1", "orders {2 6} = 0",
        "could 4 3 4 = 1", "could 4 3 0 = 0", "could 0 4 0 = 1", "fits 4 0 = 1", "fits 4 1 = 3", "fits 0 0 = 0",
        "fits {0 6} 1 = -5", "odds 4 3 4 {0 1} = 1", "odds 2 0 0 0 = NO", "mean 0 = 4", "mean 1 = 5", "ends 0 = 5",
        "ends 1 = 7", "ends {2 3 4} = 0", "looked = -5", "judge 0 0 = 0", "judge 0 9 = 100", "judge 3 0 = 100", "judge 2 0 = -5",
        "taken 0 {0 1} = 1", "taken 1 0 = 0", "count 0 = 5", "count 1 = 3", "count {2 3 4 5} = 2", "read 0 0 = 1",
        "read 0 2 = 3"};
    private static final String[] REFUSED = {
        "feed {-1 128} = BAD", "of 5 0 = NONE", "of 0 8 = NONE", "folder 5 0 = NONE", "folder 0 5 = NONE", "list 5 0 = NONE",
        "list 0 -1 = NONE", "journal 5 0 0 = NONE", "journal 0 2 0 = NONE", "journal 0 0 3 = NONE", "at 5 0 = NONE",
        "at 0 -1 = BAD", "deal {-1 4} = NONE", "put 3 0 0 0 = NONE", "put 1 5 0 0 = NONE", "put 1 0 -2 0 = BAD",
        "put 1 0 0 -1 = BAD", "put 1 2 0 0 = STATE", "put {0 2} 2 0 0 = STATE", "prepare 3 = NONE", "prepare {0 2} = STATE",
        "prepare 1 = -12", "commit 3 = NONE", "commit {0 1 2} = STATE", "abandon 3 = NONE", "abandon 0 = STATE",
        "repack = STATE", "step 2 1 = NONE", "step {0 1} {-1 21} = BAD", "told 3 0 = NONE", "told 0 4 = NONE",
        "state 7 = NONE", "after 2 0 0 = NONE", "after 0 0 5 = NONE", "after 0 10 0 = BAD", "orders {1 8} = NONE",
        "could 1 0 0 = NONE", "could 0 5 0 = NONE", "could 0 0 -1 = BAD", "see 5 0 = NONE", "see 0 -1 = BAD",
        "fits 1 0 = NONE", "fits 0 2 = NONE", "odds 1 0 0 0 = NO", "odds 0 0 0 2 = NO", "mean 2 = NO", "plan 4 0 = NONE",
        "plan 3 5 = NONE", "ends 5 = NONE", "book 5 0 = NONE", "book 0 -1 = BAD", "judge 6 0 = NONE", "judge 1 0 = CAST",
        "taken 0 4 = BAD", "taken 3 0 = NOTHING", "taken 0 {2 3} = CAST", "count 6 = BAD", "tape 6 0 0 = NONE",
        "tape 0 5 0 = BAD", "tape 0 0 61 = BAD", "tape 0 0 -1 = SIZE", "item 6 0 0 = NONE", "item 3 0 0 = NOTHING",
        "item 0 3 0 = PLACE", "read 6 0 = NO", "read 0 3 = NO", "shift 6 0 0 0 0 = NONE", "shift 0 0 6 0 0 = NONE",
        "shift 0 0 3 0 0 = NOTHING", "shift 3 0 0 0 0 = NOTHING", "shift 0 0 1 0 1 = CAST", "shift 0 0 0 0 4 = PLACE",
        "shift 0 1 0 0 3 = PLACE", "shift 0 0 0 1 3 = PLACE"};

    private final Edges doc;

    private EdgesOfAnswers(Edges doc) {
        this.doc = doc;
    }

    static void tell(Edges doc) {
        EdgesOfAnswers it = new EdgesOfAnswers(doc);
        it.answers();
        it.changeNothing();
        it.leftAlone();
        it.fullChangesNothing();
        it.sets();
        it.firstNamed();
    }

    private static String[] all(String[]... parts) {
        List<String> lines = new ArrayList<>();
        for (String[] part : parts) {
            lines.addAll(Arrays.asList(part));
        }
        return lines.toArray(new String[0]);
    }

    private static String[] lines(String... lines) {
        return lines;
    }

    private void answers() {
        doc.in("Answers");
        doc.edge("NONE (-1) no such number;",
            "of 0 0 = -1", "prepare 0 = -1", "orders 1 = -1", "state 7 = -1", "deal 4 = -1", "tape 6 0 0 = -1");
        doc.edge("BAD (-2) a number is not as told;",
            "feed 128 = -2", "count 6 = -2", "taken 0 4 = -2", "tape 0 5 0 = -2", "step 0 21 = -2");
        doc.edge("STATE (-3) as told;", "undo = -3", "deal 0 = 0", "commit 0 = -3", "repack = 0", "repack = -3");
        doc.edge("FULL (-4);", "4* deal 0", "deal 0 = -4");
    }

    /** All under way, with an image that is otherwise, and without one. */
    private void changeNothing() {
        String[] atLast = lines("undo = 5", "told 0 2 = 2", "told 1 2 = 0", "told 2 2 = 1", "state 2 = 3", "state {3 4} = 1",
            "state 0 = 2", "count {2 3 4} = 1", "count 5 = 2", "of 0 2 = 6", "of 0 3 = 5", "of 1 1 = 0", "step 0 20 = 3", "step 1 20 = 2");
        doc.edge("What is answered so changes nothing;",
            all(UNDER_WAY, lines("image = 5"), GONE_ON, REFUSED, atLast));
        doc.edge("What is answered so changes nothing;",
            all(UNDER_WAY, GONE_ON, REFUSED, lines("undo = STATE", "of 0 5 = 2", "step 1 20 = 3")));
        doc.edge("what is asked changes nothing.", all(UNDER_WAY, lines("image = 5"), GONE_ON, ASKED, atLast));
        doc.edge("what is asked changes nothing.",
            all(UNDER_WAY, GONE_ON, ASKED, lines("undo = STATE", "of 0 5 = 2", "book 0 9 = 3", "looked = 2", "step 1 20 = 3")));
        // Nor does what comes and goes again leave anything behind.
        String[] comeAndGo = lines("see -1 0 = 0", "see 0 6 = 1", "see 3 4 = 2", "book -1 0 = 0", "book 0 6 = 1",
            "book 3 0 = 2", "plan -1 0 = 0", "plan 3 0 = 1", "plan 2 0 = 2", "expire 0 = 0", "step {0 1} 0 = 0",
            "abandon 2 = 1", "ready 1 3:-1:4 = 2", "deal 3 = 3", "put 3 0 0 0 = 1", "abandon 3 = 1", "row 3 0 1 2",
            "shift 3 0 3 1 1 = 1", "item 3 0 5 = 1", "tape 3 -1 0 = 1");
        doc.edge("what is asked changes nothing.", all(UNDER_WAY, lines("image = 5"), GONE_ON, comeAndGo, ASKED, atLast));
        doc.edge("what is asked changes nothing.",
            all(UNDER_WAY, GONE_ON, comeAndGo, ASKED, lines("undo = STATE", "step 1 20 = 3")));
    }

    /** What a crash, an image and its undoing leave as it is. */
    private void leftAlone() {
        doc.in("Terms 1");
        doc.edge("all other DEALS go; a REPACK runs no more, THE PACK is as it was.",
            all(UNDER_WAY, lines("image = 5"), GONE_ON, lines("crash = 3", "count {2 3 4 5} = 2", "count 0 = 5", "read 2 1 = 7",
                "of 0 5 = 2", "of 0 2 = 6", "of 0 3 = 5", "fits 0 0 = 0", "store 3 4", "fits 0 0 = 1", "looked = 1",
                "undo = 5", "state 5 = 7", "count 3 = 1", "count 5 = 2", "name = 5")));
        doc.in("Promise 33");
        doc.edge("All is as THE IMAGE:",
            all(UNDER_WAY, GONE_ON, lines("undo = STATE", "image = 5", "count {2 3 4 5} = 2", "undo = 5", "read 2 1 = 7",
                "crash = 3", "plan -1 0 = 0", "undo = 5", "count {2 3 4 5} = 2", "state 0 = 2", "read 2 1 = 7"), ASKED,
                lines("name = 5")));
        doc.in("Answers");
    }

    private void fullChangesNothing() {
        doc.edge("FULL (-4);",
            "names a b c d e", "store 0 5", "store 1 6", "repack = 2", "step 1 1 = 1", "ready 1 1:-1:7 = 0", "commit 0 = 3",
            "step 0 1 = 1", "open 0 0:5:1 1:6:2 2:0:3 3:0:4 = 1", "2* deal 0", "4* see 0 5", "see 1 7 = 5", "9* plan 0 0",
            "plan 3 0 = 10", "7* book 0 5", "book 1 6 = 8", "row 0 2 5", "100* feed 97", "deal 0 = FULL",
            "put 1 4 0 0 = FULL", "see 0 0 = FULL", "plan 3 1 = FULL", "book 0 0 = FULL", "feed 98 = FULL", "feed 128 = BAD",
            "undo = STATE");
        doc.edge("FULL (-4);",
            "names a b c d e f aa bb cc dd ee ff", "store 0 5", "store 1 6", "open 1 1:-1:7 = 0", "repack = 2", "step 1 1 = 1",
            "see 0 6 = 1", "plan 3 0 = 1", "book 0 6 = 1", "row 0 2 5", "spell ab = FULL", "spell abc = -12", "spell a/ = -12",
            "name = -10", "count 0 = 12", "undo = STATE", "image = 12", "store 0 9", "spell ab = FULL", "spell a//b = -12");
    }

    private void sets() {
        doc.edge("A set of DEALS: as bits;",
            "names a", "deal 0 = 0", "deal 0 = 1", "open 0 0:5:1 = 2", "orders {0 1 2} = 1", "orders 3 = 2",
            "orders {4 5 6 7} = 0", "fits 3 1 = 12", "fits 2 1 = 2");
        doc.edge("one that has others than those there, or one COMMITTING, is none.",
            "names a", "deal 0 = 0", "deal 0 = 1", "deal 0 = 2", "abandon 1 = 0", "orders {2 3 6 7 8 13 16 32 -1 -6 MIN} = NONE",
            "could {2 7 8 16} 0 0 = NONE", "fits {2 7 8 16} 0 = NONE", "odds {2 7 8 16} 0 0 0 = NO", "orders 5 = 2",
            "prepare 2 = 0", "orders 5 = 2", "commit 2 = 2", "orders {4 5} = NONE", "could {4 5} 0 0 = NONE",
            "fits {4 5} 1 = NONE", "odds {4 5} 0 0 1 = NO", "orders 1 = 1", "step 0 1 = 1", "orders {4 5} = NONE",
            "step 0 1 = 1", "orders {4 5} = NONE");
        doc.edge("The constants: `NO = Long.MIN_VALUE`: There is no such number.",
            "mean 0 = -9223372036854775808", "read 0 0 = -9223372036854775808", "odds 0 0 0 0 = -9223372036854775808");
    }

    /** Calls that are refused by more than one word: the first one that their words name is the answer. */
    private void firstNamed() {
        doc.edge("the first that a call's words name.",
            "names a b c d e", "at 5 -1 = NONE", "put 0 0 -2 -1 = NONE", "deal 0 = 0", "put 0 5 -2 -1 = NONE", "put 0 0 0 0 = 1",
            "put 0 0 -2 0 = BAD", "put 0 0 0 1000 = BAD", "put 0 1 0 0 = 2", "put 0 2 0 0 = 3", "put 0 3 0 0 = 4",
            "put 0 0 0 0 = STATE", "put 0 4 0 1000 = BAD", "put 0 4 0 0 = FULL", "prepare 0 = 0", "put 0 4 0 0 = STATE",
            "step 2 21 = NONE", "after 2 10 0 = NONE", "after 0 10 5 = NONE", "could 2 0 -1 = NONE", "could 0 5 -1 = NONE",
            "5* see 0 0", "see 5 -1 = NONE", "see 0 -1 = BAD", "see 0 0 = FULL", "10* plan 0 0", "plan 3 5 = NONE",
            "plan 0 0 = FULL", "8* book 0 0", "book 5 -1 = NONE", "book 0 -1 = BAD", "book 0 0 = FULL");
        doc.edge("a call's words name.",
            "100* feed 97", "feed 128 = BAD", "feed 97 = FULL", "4* deal 0", "deal 4 = NONE", "deal 0 = FULL", "taken 4 4 = BAD",
            "taken 4 3 = NOTHING", "taken 0 3 = CAST", "tape 6 5 -1 = NONE", "tape 0 5 -1 = BAD", "tape 0 5 61 = BAD",
            "tape 0 0 61 = BAD", "tape 0 0 -1 = SIZE", "tape 0 -1 -1 = 1", "item 6 -1 0 = NONE", "item 0 -1 0 = NOTHING",
            "row 0 0 1", "item 0 -1 0 = PLACE", "row 1 1 1", "shift 6 -1 2 -1 -1 = NONE", "shift 2 -1 6 -1 -1 = NONE",
            "shift 0 -1 2 -1 -1 = NOTHING", "shift 2 -1 0 -1 -1 = NOTHING", "shift 0 -1 1 -1 -1 = CAST",
            "shift 0 -1 0 -1 -1 = PLACE", "judge 6 -1 = NONE", "judge 1 -1 = CAST");
    }
}
