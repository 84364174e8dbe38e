/** What the document says of names: Terms, part 1, its first lines, and promises 1 to 9. */
final class EdgesOfNames {
    private final Edges doc;

    private EdgesOfNames(Edges doc) {
        this.doc = doc;
    }

    static void tell(Edges doc) {
        EdgesOfNames it = new EdgesOfNames(doc);
        it.lastCalls();
        it.texts();
        it.folders();
        it.orderOfNames();
        it.revisions();
        it.newObject();
        it.feed();
        it.name();
        it.of();
        it.folder();
        it.list();
        it.journal();
        it.at();
        it.expire();
    }

    private void lastCalls() {
        doc.in("What it is");
        doc.edge("used for at most 512 calls after it has been made; what later calls answer is free.",
            "127* do 0", "state 0 = 127", "deal 3 = 0", "told 0 0 = 3", "abandon 0 = 0");
        doc.edge("used for at most 512 calls",
            "names a", "100* store 0 999", "state 0 = 100", "of 0 5 = 6", "journal 0 0 0 = 94", "journal 0 5 0 = 99",
            "at 0 99 = 999", "expire 99 = 5", "mean 0 = 1", "spell c = 1", "count 0 = 2");
    }

    private void texts() {
        doc.in("Terms 1");
        doc.edge("NAMES 0 .. 11, as they come, are texts",
            "spell f = 0", "spell e = 1", "spell d = 2", "spell c = 3", "spell b = 4", "spell a = 5", "spell ff = 6",
            "spell ee = 7", "spell dd = 8", "spell cc = 9", "spell bb = 10", "of 11 0 = NONE", "count 0 = 11",
            "spell aa = 11", "of 11 0 = 0", "spell ab = FULL", "of 12 0 = NONE", "of -1 0 = NONE", "count 0 = 12",
            "store 11 999", "of 11 1 = 999", "list -1 0 = 11");
        doc.edge("PARTS, 1 to 3, with / between",
            "name = -10", "spell a = 0", "of 0 4 = 1", "spell a/b = 1", "of 1 4 = 2", "spell a/b/c = 2", "of 2 4 = 3",
            "spell a/b/c/d = -15", "spell aa/bb/cc/dd = -18", "spell a/ = -12", "spell a/b/ = -14", "spell a/b/c/ = -15",
            "spell / = -10", "spell /a = -10", "spell a//b = -12", "spell a/b//c = -14", "spell a.b = -11",
            "spell a0b = -11", "spell a\\b = -11", "count 0 = 3");
        doc.edge("each 1 or 2 letters a .. f",
            "spell a = 0", "spell f = 1", "spell fa = 2", "spell af/f = 3", "spell a/fa = 4", "spell a/b/ff = 5",
            "spell ff/ff/ff = 6", "spell aaa = -12", "spell a/fff = -14", "spell a/b/abc = -16", "spell ff/ff/fff = -18",
            "spell ab/abc = -15", "spell g = -10", "spell ` = -10", "spell A = -10", "spell F = -10", "spell ag = -11",
            "spell a` = -11", "spell a/g = -12", "spell a/bg = -13", "spell a/b/g = -14", "spell aa/bb/cg = -17",
            "feed 0 = 1", "name = -10", "feed 97 = 1", "feed 0 = 2", "name = -11", "feed 127 = 1", "name = -10",
            "count 0 = 7");
    }

    private void folders() {
        doc.edge("One is a FOLDER of another, if it has fewer PARTS",
            "names a b a/b a/c a/b/c", "folder 0 0 = 0", "folder 0 1 = 0", "folder 2 2 = 0", "folder 2 3 = 0",
            "folder 4 4 = 0", "folder 2 0 = 0", "folder 4 0 = 0", "folder 4 2 = 0", "folder 0 2 = 1", "folder 0 4 = 1",
            "folder 2 4 = 1");
        doc.edge("and they are the other's first ones",
            "names a aa/b a/bb/c a/b aa b/a aa/b/c ff ff/ff ff/ff/ff ff/ff/f ff/f", "folder 0 1 = 0", "folder 0 5 = 0",
            "folder 0 6 = 0", "folder 4 1 = 1", "folder 4 6 = 1", "folder 4 3 = 0", "folder 0 2 = 1", "folder 3 2 = 0",
            "folder 1 6 = 1", "folder 3 6 = 0", "folder 7 8 = 1", "folder 7 9 = 1", "folder 8 9 = 1", "folder 8 10 = 1",
            "folder 11 9 = 0", "folder 11 10 = 0", "folder 10 9 = 0", "folder 9 10 = 0");
    }

    private void orderOfNames() {
        doc.edge("NAMES are in ORDER by their bytes",
            "names f e d c b a", "of 0 7 = 5", "of 1 7 = 4", "of 2 7 = 3", "of 3 7 = 2", "of 4 7 = 1", "of 5 7 = 0",
            "spell cc = 6", "of 6 7 = 3", "of 0 7 = 6", "of 2 7 = 4", "of 3 7 = 2");
        doc.edge("where two differ first, by those (/ is below letters)",
            "names ab/a aa/f a/ff aa b/a ba ff/ff/ff ff/ff/fe", "of 2 7 = 0", "of 3 7 = 1", "of 1 7 = 2", "of 0 7 = 3",
            "of 4 7 = 4", "of 5 7 = 5", "of 7 7 = 6", "of 6 7 = 7");
        doc.edge("one that is how another begins is ahead of it",
            "names a/b/cc a/b/c a/b a ff/ff/ff ff/ff/f ff f", "of 3 7 = 0", "of 2 7 = 1", "of 1 7 = 2", "of 0 7 = 3",
            "of 7 7 = 4", "of 6 7 = 5", "of 5 7 = 6", "of 4 7 = 7");
    }

    private void revisions() {
        doc.edge("REVISIONS: 1 .. 999; 0: none",
            "names a", "store 0 1", "of 0 1 = 1", "store 0 999", "of 0 1 = 999", "store 0 0", "of 0 1 = 0", "open 1 = 0",
            "put 0 0 -1 1000 = BAD", "put 0 0 -1 -1 = BAD", "told 0 1 = 0");
        doc.edge("Each NAME has a LOOSE REVISION, or none; one in THE PACK, or none (none, at first)",
            "names a b", "of 0 {2 3} = 0", "store 0 5", "of 0 2 = 5", "of 0 3 = 0", "pack", "of 0 2 = 0", "of 0 3 = 5",
            "store 0 6", "of 0 2 = 6", "of 0 3 = 5", "of 1 {2 3} = 0", "store 0 0", "of 0 {2 3} = 0");
        doc.edge("STORED: the LOOSE one, if there is one, else that in THE PACK, else 0",
            "names a", "of 0 1 = 0", "store 0 5", "of 0 1 = 5", "pack", "of 0 1 = 5", "store 0 4", "of 0 1 = 4",
            "store 0 0", "of 0 1 = 0");
        doc.edge("TIME: 0 at first", "state 0 = 0", "names a", "state 0 = 0", "store 0 1", "journal 0 0 0 = 0", "state 0 = 1");
    }

    private void newObject() {
        doc.in("Promise 1");
        doc.edge("No NAMES.",
            "count {0 1 2 3 4 5} = 0", "of 0 {0 7} = NONE", "folder 0 0 = NONE", "list -1 0 = -5", "list 0 0 = NONE",
            "journal 0 0 0 = NONE", "at 0 0 = NONE", "ends 0 = NONE", "mean {0 1} = NO", "image = 0", "undo = 0");
    }

    private void feed() {
        doc.in("Promise 2");
        doc.edge("A sign (0 .. 127) comes behind THE TEXT's",
            "feed {-1 -128 MIN 128 255 256 MAX} = BAD", "count 5 = 0", "feed 0 = 1", "feed 127 = 2", "feed 128 = BAD",
            "count 5 = 2", "name = -10", "feed 98 = 1", "feed 47 = 2", "feed 97 = 3", "name = 0", "spell b = 1",
            "folder 1 0 = 1");
        doc.edge("how many it has (100 at most)",
            "98* feed 97", "feed 97 = 99", "feed 97 = 100", "feed 97 = FULL", "feed 98 = FULL", "count 5 = 100",
            "name = -12", "count 5 = 0", "feed 97 = 1", "name = 0");
        doc.edge("BAD; FULL.", "100* feed 127", "feed {0 127} = FULL", "feed {-1 128} = BAD", "count 5 = 100");
    }

    private void name() {
        doc.in("Promise 3");
        doc.edge("THE TEXT, which is empty then (by a FAULT, too), is a NAME",
            "text a/b", "count 5 = 3", "name = 0", "count 5 = 0", "name = -10", "text a/g", "count 5 = 3", "name = -12",
            "count 5 = 0", "name = -10", "text a", "name = 1", "folder 1 0 = 1");
        doc.edge("its number (that of one that is the same text, if there is one)",
            "spell a = 0", "spell aa = 1", "spell a/a = 2", "store 1 5", "spell aa = 1", "spell a = 0", "spell a/a = 2",
            "of 1 1 = 5", "of 1 5 = 1", "count 0 = 3");
        doc.edge("-10 less the FAULT: the place of the first byte with which none begins so",
            "spell g = -10", "spell gg = -10", "spell ag = -11", "spell aag = -12", "spell aaa/g = -12", "spell a//g = -12",
            "spell a/b/c/ = -15", "spell ff/ff/fff = -18", "spell ff/ff/ff/ = -18", "spell ff/ff/ff0000000000 = -18",
            "98* feed 127", "name = -10", "count 0 = 0");
        doc.edge("(the end of THE TEXT, if it ends too early)",
            "name = -10", "spell a/ = -12", "spell ab/ = -13", "spell a/b/ = -14", "spell ab/cd/ = -16", "count 0 = 0");
        doc.edge("FULL: 12 came (THE TEXT is empty all the same).",
            "names a b c d e f aa bb cc dd ee", "spell ff = 11", "spell ab = FULL", "count 5 = 0", "name = -10",
            "spell ff = 11", "spell a = 0", "spell abc = -12", "spell a/ = -12", "spell a/b = FULL", "count 0 = 12", "count 5 = 0");
    }

    private void of() {
        doc.in("Promise 4");
        doc.edge("Of a NAME what 0 VALUE",
            "names a b", "of 0 0 = 0", "store 0 5", "going 1 0:-1:6 1:-1:7", "of 0 0 = 5", "of 1 0 = 0", "step 0 1 = 1",
            "of 0 0 = 6", "of 1 0 = 7");
        doc.edge("1 STORED",
            "names a", "of 0 1 = 0", "store 0 5", "pack", "of 0 1 = 5", "going 1 0:-1:6", "step 0 1 = 1", "of 0 1 = 5",
            "step 0 1 = 1", "of 0 1 = 6");
        doc.edge("2 LOOSE (0: none)", "names a", "of 0 2 = 0", "store 0 5", "of 0 2 = 5", "pack", "of 0 2 = 0");
        doc.edge("3 that in THE PACK (0)", "names a", "of 0 3 = 0", "store 0 5", "of 0 3 = 0", "pack", "of 0 3 = 5");
        doc.edge("4 how many PARTS", "names ff ff/ff ff/ff/ff", "of 0 4 = 1", "of 1 4 = 2", "of 2 4 = 3");
        doc.edge("5 how many its JOURNAL has",
            "names a b", "of 0 5 = 0", "store 0 5", "of 0 5 = 1", "of 1 5 = 0", "5* store 0 5", "of 0 5 = 6", "store 0 5",
            "of 0 5 = 6", "expire MAX = 6", "of 0 5 = 0");
        doc.edge("6 by which DEAL it is LOCKED (-5: none)",
            "names a b c", "of 0 6 = -5", "3* deal 0", "ready 1 0:-1:1 1:-1:0 = 3", "of {0 1} 6 = 3", "of 2 6 = -5",
            "abandon 0 = 0", "ready 1 2:-1:1 = 0", "of 2 6 = 0", "of 0 6 = 3", "abandon 3 = 2", "of {0 1} 6 = -5");
        doc.edge("7 its place in ORDER (0, 1, ..).",
            "names b", "of 0 7 = 0", "spell a = 1", "of 0 7 = 1", "of 1 7 = 0", "names c d e f ab ac ad ae af ff",
            "of 11 7 = 11", "of 0 7 = 6");
        doc.edge("NONE.",
            "names a b", "of {-1 -5 2 3 11 12 MIN MAX} {0 7} = NONE", "of {0 1} {-1 8 9 MIN MAX} = NONE", "of 1 7 = 1",
            "spell c = 2", "of 2 7 = 2");
    }

    private void folder() {
        doc.in("Promise 5");
        doc.edge("Whether a NAME is a FOLDER of another.",
            "names a a/b b", "folder 0 1 = 1", "folder 1 0 = 0", "folder 0 2 = 0", "folder 0 0 = 0");
        doc.edge("NONE.",
            "names a a/b", "folder {-1 2 12 MIN MAX} 1 = NONE", "folder 0 {-1 2 12 MIN MAX} = NONE",
            "folder -1 -1 = NONE", "folder 0 1 = 1");
    }

    private void list() {
        doc.in("Promise 6");
        doc.edge("LIST under a NAME (-1: all).",
            "names b a a/c a/b", "store 2 1", "store 3 1", "store 0 1", "list -1 0 = 3", "list -1 1 = 2", "list -1 2 = 0",
            "list -1 3 = -5", "list 1 0 = 3", "list 1 1 = 2", "list 1 2 = -5", "list 0 0 = -5");
        doc.edge("NONE: name, k is below 0.",
            "names a a/b", "store 1 5", "list {-2 2 12 MIN MAX} 0 = NONE", "list {-1 0 1} {-1 MIN} = NONE", "list -1 0 = 1",
            "list 0 0 = 1", "list {-1 0} {1 12 MAX} = -5", "list -2 -1 = NONE");
    }

    private void journal() {
        doc.in("Promise 7");
        doc.edge("Of entry k (0 the oldest) of the JOURNAL of a NAME what 0 TIME, 1 STORED as it was, 2 NEW.",
            "names a b", "store 1 9", "store 0 5", "store 0 999", "store 0 0", "journal 0 0 0 = 1", "journal 0 0 1 = 0",
            "journal 0 0 2 = 5", "journal 0 1 0 = 2", "journal 0 1 1 = 5", "journal 0 1 2 = 999", "journal 0 2 0 = 3",
            "journal 0 2 1 = 999", "journal 0 2 2 = 0", "journal 1 0 0 = 0", "journal 1 0 1 = 0", "journal 1 0 2 = 9");
        doc.edge("NONE.",
            "names a b", "journal 0 0 0 = NONE", "store 0 5", "journal 0 0 {-1 3 MIN MAX} = NONE",
            "journal 0 {-1 1 5 6 MIN MAX} 0 = NONE", "journal {-1 2 12 MIN MAX} 0 0 = NONE", "journal 1 0 {0 1 2} = NONE",
            "5* store 0 6", "journal 0 5 2 = 6", "journal 0 6 2 = NONE", "expire 5 = 5", "journal 0 0 0 = 5",
            "journal 0 1 0 = NONE", "expire 6 = 1", "journal 0 0 0 = NONE");
    }

    private void at() {
        doc.in("Promise 8");
        doc.edge("AT.", "names a", "at 0 0 = 0", "store 0 5", "at 0 0 = 5", "store 0 6", "at 0 0 = 5", "at 0 {1 2 MAX} = 6");
        doc.edge("NONE; BAD: time is below 0.",
            "names a", "store 0 5", "at 0 {-1 MIN} = BAD", "at 0 {0 MAX} = 5", "at {-1 1 12 MIN MAX} 0 = NONE",
            "at {-1 1} -1 = NONE");
    }

    private void expire() {
        doc.in("Promise 9");
        doc.edge("All in JOURNALS that came ahead of a TIME go: how many.",
            "names a b", "expire {0 MAX MIN} = 0", "store 0 1", "do 1 0:-1:2 1:-1:3", "store 1 4", "expire {MIN -1 0} = 0",
            "of 0 5 = 2", "of 1 5 = 2", "expire 1 = 1", "of 0 5 = 1", "of 1 5 = 2", "journal 0 0 0 = 1", "expire 1 = 0",
            "expire 2 = 2", "of 0 5 = 0", "of 1 5 = 1", "journal 1 0 0 = 2", "journal 1 0 1 = 3", "expire MAX = 1",
            "of {0 1} 5 = 0", "of 0 1 = 2", "of 1 1 = 4", "state 0 = 3", "expire MAX = 0");
        doc.edge("go: how many.",
            "names a b c d", "6* do 1 0:-1:1 1:-1:1 2:-1:1 3:-1:1", "expire 5 = 20", "of {0 1 2 3} 5 = 1", "expire 6 = 4",
            "6* do 1 0:-1:1 1:-1:1 2:-1:1 3:-1:1", "expire MAX = 24", "names e f aa bb cc dd ee ff", "store 11 1",
            "expire MAX = 1", "of 11 5 = 0");
    }
}
