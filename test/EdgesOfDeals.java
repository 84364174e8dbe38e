/** What the document says of deals, steps, the repack and crashes: Terms, part 1, and promises 10 to 19. */
final class EdgesOfDeals {
    private final Edges doc;

    private EdgesOfDeals(Edges doc) {
        this.doc = doc;
    }

    static void tell(Edges doc) {
        EdgesOfDeals it = new EdgesOfDeals(doc);
        it.deals();
        it.kinds();
        it.wrong();
        it.clashes();
        it.steps();
        it.repacks();
        it.endOfRepack();
        it.crashes();
        it.dealAndPut();
        it.putRefused();
        it.prepare();
        it.commit();
        it.abandon();
        it.repack();
        it.step();
        it.crash();
        it.told();
        it.state();
    }

    private void deals() {
        doc.in("Terms 1");
        doc.edge("DEALS 0 .. 3 (a new one gets the least number that none has)",
            "deal 0 = 0", "deal 0 = 1", "deal 0 = 2", "told 3 0 = NONE", "deal 0 = 3", "deal 0 = FULL", "abandon 2 = 0",
            "abandon 1 = 0", "deal 1 = 1", "deal 1 = 2", "deal 1 = FULL", "abandon 3 = 0", "abandon 0 = 0", "deal 2 = 0",
            "told {-1 3 4 MIN MAX} 0 = NONE", "deal 2 = 3", "state 5 = 15", "crash = 4", "deal 3 = 0");
        doc.edge("are of KINDS: 0 PLAIN; 1 FORCED, 2 RISING under PLAIN; 3 KEEPING under FORCED;",
            "deal {-1 4 5 MIN MAX} = NONE", "deal 0 = 0", "deal 1 = 1", "deal 2 = 2", "deal 3 = 3", "taken 0 0 = 0",
            "taken 1 0 = 1", "taken 2 0 = 2", "taken 3 0 = 3",
            "taken 1 1 = 1", "taken 3 1 = 3", "taken {0 2} 1 = CAST", "taken 2 2 = 2", "taken {0 1 3} 2 = CAST",
            "taken 3 3 = 3", "taken {0 1 2} 3 = CAST");
        doc.edge("with ROWS (4 at most): a NAME, OLD (-1 .. 999), NEW (0 .. 999).",
            "names a b c d e", "deal 1 = 0", "put 0 0 -1 0 = 1", "put 0 1 {-2 1000 MIN MAX} 0 = BAD",
            "put 0 1 0 {-1 1000 MIN MAX} = BAD", "told 0 1 = 1", "put 0 1 999 999 = 2", "put 0 2 0 1 = 3", "put 0 3 0 1 = 4",
            "put 0 4 0 1 = FULL", "told 0 1 = 4", "prepare 0 = 0", "commit 0 = 6", "step 0 20 = 6", "of 1 1 = 999",
            "of 4 5 = 0");
        doc.edge("One is OPEN (as it comes), PREPARED, or COMMITTING (one at most).",
            "deal 0 = 0", "told 0 2 = 0", "prepare 0 = 0", "told 0 2 = 1", "commit 0 = 2", "told 0 2 = 2", "ready 0 = 1",
            "commit 1 = STATE", "told 1 2 = 1", "step 0 2 = 2", "told 0 2 = NONE", "commit 1 = 2", "told 1 2 = 2");
        doc.edge("A NAME is LOCKED by a DEAL that is PREPARED or COMMITTING and has it in a ROW.",
            "names a b c", "open 1 0:-1:1 1:-1:0 = 0", "of {0 1} 6 = -5", "prepare 0 = 0", "of {0 1} 6 = 0", "of 2 6 = -5",
            "commit 0 = 4", "of {0 1} 6 = 0", "step 0 3 = 3", "of {0 1} 6 = 0", "step 0 1 = 1", "of {0 1} 6 = -5");
    }

    private void kinds() {
        doc.edge("A ROW is ASKED FOR: PLAIN: OLD is -1, or STORED of its NAME is OLD.",
            "names a b", "store 0 5", "wrong 0 0:{-1 5}:{0 4 999} = 0", "wrong 0 0:{0 4 6 999}:5 = 2", "wrong 0 0:4:0 = 2",
            "wrong 0 1:{-1 0}:1 = 0", "wrong 0 1:{1 999}:1 = 2", "pack", "wrong 0 0:5:7 = 0", "wrong 0 0:0:7 = 2",
            "store 0 999", "wrong 0 0:999:1 = 0", "wrong 0 0:{5 998}:1 = 2");
        doc.edge("FORCED: always.",
            "names a b", "store 0 5", "wrong 1 0:{-1 0 4 5 6 999}:{0 999} = 0", "wrong 1 1:{-1 0 1 999}:{0 1} = 0");
        doc.edge("RISING: as PLAIN, and NEW is 0 or above STORED.",
            "names a b", "store 0 5", "wrong 2 0:{-1 5}:{0 6 999} = 0", "wrong 2 0:{-1 5}:{1 4 5} = 2",
            "wrong 2 0:{0 4 6}:{0 6} = 2", "wrong 2 1:0:{0 1 999} = 0", "wrong 2 1:1:2 = 2", "store 0 998", "pack",
            "wrong 2 0:998:{998 997} = 2", "wrong 2 0:998:999 = 0", "store 0 999", "wrong 2 0:-1:999 = 2",
            "wrong 2 0:-1:0 = 0");
        doc.edge("KEEPING: as FORCED, and NEW isn't 0.",
            "names a b", "store 0 5", "wrong 3 0:{-1 0 4 5 999}:0 = 2", "wrong 3 0:{-1 0 4 5 999}:{1 5 999} = 0",
            "wrong 3 1:{-1 0}:0 = 2", "wrong 3 1:{-1 0 9}:1 = 0");
    }

    private void wrong() {
        doc.edge("WRONG of a DEAL: of its ROWS, one behind the other, the first by which one of these is so",
            "names a b c d", "wrong 0 0:-1:1 1:-1:1 2:-1:1 3:9:1 = 32", "wrong 0 0:-1:1 1:9:1 2:-1:1 3:9:1 = 12",
            "wrong 0 0:-1:1 1:0:1 2:9:1 = 22", "wrong 0 0:9:1 1:9:1 2:9:1 3:9:1 = 2",
            "wrong 0 3:9:1 0:-1:1 = 2", "ready 1 1:-1:1", "wrong 0 0:9:1 1:-1:1 = 2", "wrong 0 0:0:1 1:9:1 = 11",
            "wrong 0 2:0:1 0:9:1 1:-1:1 = 12");
        doc.edge("and the first of these, as 10 times the ROW and:",
            "names a a/b c", "store 0 5", "ready 1 1:-1:0 = 0", "wrong 0 1:9:1 = 1", "wrong 0 2:0:0 1:9:1 = 11",
            "abandon 0 = 1", "wrong 0 1:9:1 = 2", "wrong 0 2:0:0 1:9:1 = 12", "wrong 0 1:0:1 = 3",
            "wrong 0 2:0:0 1:0:1 = 13", "wrong 0 1:0:1 0:9:1 = 3");
        doc.edge("1: its NAME is LOCKED by another DEAL;",
            "names a b", "open 1 0:-1:1 = 0", "wrong 1 0:-1:2 = 0", "prepare 0 = 0", "wrong 1 0:-1:2 = 1",
            "wrong 1 1:-1:2 = 0", "told 0 3 = 0", "commit 0 = 3", "wrong 1 0:-1:2 = 1", "step 0 1 = 1",
            "wrong 1 0:-1:2 = 1", "step 0 1 = 1", "wrong 1 0:-1:2 = 1", "step 0 1 = 1", "wrong 1 0:-1:2 = 0",
            "ready 1 0:-1:0 = 0", "wrong 1 0:-1:2 = 1", "abandon 0 = 1", "wrong 1 0:-1:2 = 0", "ready 1 0:-1:3 = 0",
            "open 1 0:-1:4 = 1", "told 1 3 = 1", "crash = 2", "wrong 1 0:-1:2 = 0");
        doc.edge("2: it isn't ASKED FOR;",
            "names a b c d", "wrong 0 0:1:0 = 2", "wrong 0 0:0:0 1:1:0 = 12", "wrong 3 0:0:1 1:0:1 2:0:0 = 22",
            "wrong 2 0:0:1 1:0:1 2:0:1 3:1:1 = 32");
        doc.edge("0: none is.",
            "names a b c d", "wrong 0 = 0", "wrong 0 0:0:1 = 0", "wrong 0 0:0:1 1:0:1 2:0:1 3:0:1 = 0");
    }

    private void clashes() {
        doc.edge("3: NEW isn't 0, and a FOLDER of its NAME, or a NAME of which that is a FOLDER, is THERE:",
            "names a a/b a/b/c a/c ab", "store 1 5", "wrong 1 0:-1:1 = 3", "wrong 1 0:-1:0 = 0", "wrong 1 2:-1:1 = 3",
            "wrong 1 2:-1:0 = 0", "wrong 1 {1 3 4}:-1:1 = 0", "wrong 1 4:-1:1 3:-1:1 2:-1:1 = 23", "wrong 1 4:-1:1 3:-1:1 0:-1:1 = 13", "store 1 0",
            "wrong 1 {0 2}:-1:1 = 0", "store 2 5", "wrong 1 {0 1}:-1:1 = 3", "wrong 1 {2 3 4}:-1:1 = 0", "store 2 0",
            "store 0 5", "wrong 1 {1 2 3}:-1:1 = 3", "wrong 1 {0 4}:-1:1 = 0");
        doc.edge("by a ROW of this DEAL for it, if it has one: NEW of that isn't 0;",
            "names a a/b a/b/c b", "wrong 1 0:-1:1 1:-1:1 = 3", "wrong 1 0:-1:1 1:-1:0 = 0", "wrong 1 3:-1:1 1:-1:0 0:-1:1 = 0",
            "wrong 1 3:-1:1 1:-1:2 0:-1:1 = 13", "store 1 5", "wrong 1 0:-1:1 1:-1:0 = 0", "wrong 1 1:-1:0 0:-1:1 = 0",
            "wrong 1 1:-1:0 2:-1:1 = 0", "wrong 1 2:-1:1 1:-1:6 = 3", "wrong 1 1:-1:0 0:-1:1 2:-1:1 = 13", "store 1 0",
            "ready 1 1:-1:5 = 0", "wrong 1 0:-1:1 = 3", "wrong 1 0:-1:1 1:-1:0 = 11");
        doc.edge("else: STORED isn't 0,",
            "names a a/b", "wrong 1 1:-1:1 = 0", "store 0 5", "wrong 1 1:-1:1 = 3", "pack", "wrong 1 1:-1:1 = 3",
            "ready 1 0:-1:0 = 0", "wrong 1 1:-1:1 = 3", "commit 0 = 3", "step 0 1 = 1", "of 0 0 = 0", "wrong 1 1:-1:1 = 3",
            "step 0 1 = 1", "wrong 1 1:-1:1 = 0", "step 0 1 = 1", "wrong 1 1:-1:1 = 0");
        doc.edge("or NEW isn't 0 in a ROW for it of another DEAL that is PREPARED or COMMITTING.",
            "names a a/b b", "open 1 2:-1:1 0:-1:1 = 0", "wrong 1 1:-1:1 = 0", "prepare 0 = 0", "wrong 1 1:-1:1 = 3",
            "wrong 1 1:-1:0 = 0", "told 0 3 = 0", "commit 0 = 4", "wrong 1 1:-1:1 = 3", "step 0 1 = 1", "wrong 1 1:-1:1 = 3",
            "step 0 2 = 2", "wrong 1 1:-1:1 = 3", "step 0 1 = 1", "wrong 1 1:-1:1 = 3", "store 0 0", "wrong 1 1:-1:1 = 0",
            "ready 1 0:-1:0 = 0", "wrong 1 1:-1:1 = 0", "ready 1 1:-1:1 = 1", "abandon 0 = 1", "wrong 1 0:-1:1 = 3",
            "abandon 1 = 1", "wrong 1 0:-1:1 = 0");
    }

    private void steps() {
        doc.edge("A STEP of the one that is COMMITTING: the first: its RECORD is written.",
            "names a", "going 1 0:-1:5", "state 1 = 0", "of 0 0 = 0", "step 0 1 = 1", "state 1 = 1", "of 0 0 = 5",
            "of 0 {1 2 5} = 0", "state 0 = 0", "state 5 = 1", "step 0 20 = 2", "going 0", "step 0 1 = 1", "state 1 = 1",
            "step 0 1 = 1", "state 1 = 0", "state 5 = 0", "state 0 = 2");
        doc.edge("Then ROW by ROW one is APPLIED:",
            "names a b c d", "going 1 3:-1:4 1:-1:2 0:-1:1 2:-1:3", "step 0 2 = 2", "of 3 1 = 4", "of {0 1 2} 1 = 0",
            "step 0 1 = 1", "of 1 1 = 2", "of {0 2} 1 = 0", "step 0 1 = 1", "of 0 1 = 1", "of 2 1 = 0", "step 0 1 = 1",
            "of 2 1 = 3", "state {1 2} = 1", "of {0 1 2 3} 5 = 1");
        doc.edge("NEW isn't 0: that is the LOOSE REVISION;",
            "names a", "store 0 5", "of 0 2 = 5", "pack", "store 0 6", "of 0 2 = 6", "of 0 3 = 5", "store 0 5", "of 0 2 = 5",
            "of 0 3 = 5", "store 0 999", "of 0 2 = 999", "of 0 3 = 5");
        doc.edge("else there is none, LOOSE or in THE PACK;",
            "names a b c", "do 1 0:-1:5 1:-1:6", "pack", "do 1 0:-1:7 2:-1:8", "do 1 0:-1:0 1:-1:0 2:-1:0",
            "of {0 1 2} {1 2 3} = 0", "store 0 0", "of 0 {1 2 3} = 0", "of 0 5 = 4");
        doc.edge("and TIME, STORED as it was, and NEW come to the JOURNAL of the NAME",
            "names a b", "store 1 9", "store 0 5", "pack", "store 0 6", "store 0 0", "journal 0 0 0 = 1", "journal 0 0 1 = 0",
            "journal 0 0 2 = 5", "journal 0 1 0 = 2", "journal 0 1 1 = 5", "journal 0 1 2 = 6", "journal 0 2 0 = 3",
            "journal 0 2 1 = 6", "journal 0 2 2 = 0", "of 1 5 = 1");
        doc.edge("(6 at most; the oldest goes, if there were 6).",
            "names a b", "store 0 1", "store 0 2", "store 0 3", "store 0 4", "store 0 5", "of 0 5 = 5", "store 0 6",
            "of 0 5 = 6", "journal 0 0 0 = 0", "journal 0 5 2 = 6", "store 0 7", "of 0 5 = 6", "journal 0 0 0 = 1",
            "journal 0 0 1 = 1", "journal 0 0 2 = 2", "journal 0 5 0 = 6", "journal 0 5 1 = 6", "journal 0 5 2 = 7",
            "journal 0 6 0 = NONE", "of 1 5 = 0", "13* store 0 8", "journal 0 0 0 = 14", "journal 0 5 0 = 19", "of 0 5 = 6",
            "expire 15 = 1", "of 0 5 = 5", "store 0 9", "of 0 5 = 6", "journal 0 0 0 = 15", "journal 0 5 2 = 9");
        doc.edge("The last: RECORD and DEAL go; TIME is 1 more.",
            "names a", "going 1 0:-1:5", "step 0 2 = 2", "state 0 = 0", "state {1 2 5} = 1", "told 0 2 = 2", "step 0 1 = 1",
            "state 0 = 1", "state {1 2 5} = 0", "told 0 2 = NONE", "step 0 1 = 0", "state 0 = 1", "deal 0 = 0",
            "told 0 {0 1 2} = 0");
        doc.edge("VALUE of a NAME: if a RECORD is written and has a ROW for it: NEW of that; else STORED.",
            "names a b c", "store 0 5", "store 2 9", "ready 1 1:-1:3 0:-1:0 = 0", "of 0 0 = 5", "of 1 0 = 0", "commit 0 = 4",
            "of 0 0 = 5", "of 1 0 = 0", "of 2 0 = 9", "step 0 1 = 1", "of 0 0 = 0", "of 0 1 = 5", "of 1 0 = 3", "of 1 1 = 0",
            "of 2 0 = 9", "step 0 1 = 1", "of 0 0 = 0", "of 0 1 = 5", "of 1 0 = 3", "step 0 2 = 2", "of 0 0 = 0",
            "of 1 0 = 3", "of 2 0 = 9");
    }

    private void repacks() {
        doc.edge("A REPACK runs, or none.",
            "state 3 = 0", "repack = 0", "state 3 = 1", "repack = STATE", "state 3 = 1", "step 1 1 = 1", "state 3 = 0",
            "step 1 1 = 0", "repack = 0");
        // What is stored behind the step that reached a name is not what was written.
        doc.edge("A STEP of it: of the NAMES behind the latest one that was reached by it (of all, at first) the first by"
                + " ORDER that has STORED not 0 is reached: it is WRITTEN with that.",
            "names c b a aa", "do 1 0:-1:3 2:-1:1 3:-1:2", "repack = 3", "state 4 = 0", "step 1 1 = 1", "state 4 = 1",
            "store 2 11", "step 1 1 = 1", "state 4 = 2", "store 3 12", "store 0 13", "step 1 1 = 1", "state 4 = 3",
            "state 3 = 1", "store 0 23", "step 1 20 = 1", "of 2 3 = 1", "of 3 3 = 2", "of 0 3 = 13", "of 1 3 = 0",
            "of 2 2 = 11", "of 3 2 = 12", "of 0 2 = 23");
        doc.edge("has STORED not 0 is reached",
            "names a b c", "do 1 0:-1:1 1:-1:2 2:-1:3", "repack = 3", "going 1 0:-1:0 1:-1:5", "step 0 1 = 1",
            "step 1 1 = 1", "state 4 = 1", "step 0 3 = 3", "store 1 0", "step 1 1 = 1", "state 4 = 2", "step 1 1 = 1",
            "state 3 = 0", "of {0 1} {2 3} = 0", "of 2 3 = 3", "crash = 0", "repack = 1", "going 1 2:-1:0 0:-1:5",
            "step 0 1 = 1", "step 1 1 = 1", "state {3 4} = 1", "step 1 1 = 1", "state 3 = 0", "of 0 3 = 0", "of 2 3 = 3");
        doc.edge("If there is none, the REPACK is over:",
            "repack = 0", "step 1 20 = 1", "names a b c d e f aa bb cc dd ee ff", "repack = 0", "step 1 20 = 1",
            "do 1 0:-1:1 1:-1:1 2:-1:1 3:-1:1", "do 1 4:-1:1 5:-1:1 6:-1:1 7:-1:1", "do 1 8:-1:1 9:-1:1 10:-1:1 11:-1:1",
            "repack = 12", "step 1 12 = 12", "state 3 = 1", "state 4 = 12", "of 11 3 = 0", "step 1 20 = 1", "state 3 = 0",
            "state 4 = 0", "of {0 5 6 11} 3 = 1", "of {0 5 6 11} 2 = 0");
    }

    private void endOfRepack() {
        doc.edge("THE PACK are the REVISIONS WRITTEN, but of NAMES with STORED 0;",
            "names a b c", "do 1 0:-1:1 1:-1:2 2:-1:3", "pack", "repack = 3", "step 1 3 = 3", "store 0 0", "store 1 0",
            "store 1 7", "step 1 1 = 1", "of 0 {1 2 3} = 0", "of 1 3 = 2", "of 1 2 = 7", "of 2 3 = 3",
            "plan 3 1 = 1", "ends 1 = 2", "of 1 0 = 7", "store 1 0",
            "of 1 {1 2 3} = 0", "repack = 1", "step 1 20 = 2", "of 2 3 = 3", "of {0 1} 3 = 0");
        doc.edge("and where the LOOSE REVISION is that in THE PACK then, there is no LOOSE one.",
            "names a b c", "do 1 0:-1:5 1:-1:6 2:-1:7", "repack = 3", "step 1 3 = 3", "store 0 6", "store 0 5", "store 1 7",
            "of 0 2 = 5", "step 1 1 = 1", "of 0 2 = 0", "of 0 3 = 5", "of 1 2 = 7", "of 1 3 = 6", "of 2 2 = 0", "of 2 3 = 7",
            "store 2 7", "of 2 2 = 7", "pack", "of {0 1 2} 2 = 0", "of 1 3 = 7", "of 2 3 = 7");
        doc.edge("(A NAME that comes or is APPLIED behind the place that was reached isn't looked for again.)",
            "names b d c", "store 0 2", "store 1 4", "repack = 2", "step 1 1 = 1", "spell a = 3", "spell cc = 4", "store 3 1",
            "store 0 12", "store 2 3", "store 4 5", "step 1 20 = 4", "of 3 2 = 1", "of 3 3 = 0", "of 0 2 = 12", "of 0 3 = 2",
            "of 2 2 = 0", "of 2 3 = 3", "of 4 2 = 0", "of 4 3 = 5", "of 1 3 = 4");
    }

    private void crashes() {
        doc.edge("A CRASH: if a RECORD is written, all its ROWS that aren't APPLIED yet are, and the last STEP is done;",
            "names a b", "going 1 0:-1:1 1:-1:2", "crash = 1", "of {0 1} 0 = 0", "of {0 1} 5 = 0", "state 0 = 0",
            "going 1 0:-1:1 1:-1:2", "step 0 1 = 1", "crash = 1", "of 0 1 = 1", "of 1 1 = 2", "of {0 1} 5 = 1", "state 0 = 1",
            "state {1 2 5} = 0", "going 1 0:-1:3 1:-1:4", "step 0 2 = 2", "crash = 1", "of 0 1 = 3", "of 1 1 = 4",
            "of {0 1} 5 = 2", "journal 1 1 0 = 1", "state 0 = 2", "going 1 0:-1:5 1:-1:0", "step 0 3 = 3", "crash = 1",
            "of 0 1 = 5", "of 1 1 = 0", "of {0 1} 5 = 3", "state 0 = 3", "going 0", "step 0 1 = 1", "crash = 1", "state 0 = 4",
            "crash = 0", "state 0 = 4");
        doc.edge("all other DEALS go;",
            "names a b c", "open 0 0:-1:1 = 0", "ready 0 1:-1:1 = 1", "going 0 2:-1:1", "deal 3 = 3", "crash = 4",
            "state 5 = 0", "of {0 1 2} 1 = 0", "of {0 1 2} 6 = -5", "ready 0 1:-1:1 = 0", "going 0 2:-1:1", "step 0 1 = 1",
            "crash = 2", "state 5 = 0", "of 1 1 = 0", "of 2 1 = 1", "deal 0 = 0", "told 0 1 = 0");
        doc.edge("a REPACK runs no more, THE PACK is as it was.",
            "names a b", "do 1 0:-1:1 1:-1:2", "repack = 2", "step 1 2 = 2", "crash = 0", "state {3 4} = 0",
            "of {0 1} 3 = 0", "step 1 1 = 0", "pack", "store 0 5", "repack = 2", "step 1 1 = 1", "going 1 1:-1:0",
            "step 0 1 = 1", "crash = 1", "of 0 2 = 5", "of 0 3 = 1", "of 1 3 = 0", "state 3 = 0", "repack = 1", "state 4 = 0",
            "step 1 1 = 1", "step 1 20 = 1", "of 0 3 = 5");
    }

    private void dealAndPut() {
        doc.in("Promise 10");
        doc.edge("A DEAL: its number.", "deal 3 = 0", "deal 2 = 1", "deal 1 = 2", "deal 0 = 3", "told 0 0 = 3", "told 3 0 = 0");
        doc.edge("NONE: kind; FULL: 4.",
            "deal {-1 4 MIN MAX} = NONE", "deal 0 = 0", "deal 3 = 1", "deal 1 = 2", "deal 2 = 3", "deal {0 3} = FULL",
            "deal {-1 4} = NONE", "abandon 1 = 0", "deal 3 = 1", "deal 0 = FULL");
        doc.in("Promise 11");
        doc.edge("A ROW comes to a DEAL: how many it has.",
            "names a b c d", "deal 0 = 0", "deal 0 = 1", "put 1 0 -1 1 = 1", "put 1 3 0 0 = 2", "put 0 0 -1 1 = 1",
            "put 1 2 0 0 = 3", "put 1 1 0 0 = 4", "told 0 1 = 1", "told 1 1 = 4", "of {0 1} 1 = 0");
    }

    private void putRefused() {
        doc.edge("NONE: deal, name;",
            "names a b", "put 0 0 0 0 = NONE", "deal 0 = 0", "put {-1 1 4 MIN MAX} 0 0 0 = NONE",
            "put 0 {-1 2 12 MIN MAX} 0 0 = NONE", "put 0 2 -2 0 = NONE", "put 1 0 0 1000 = NONE", "put 0 1 0 0 = 1",
            "abandon 0 = 1", "put 0 0 0 0 = NONE");
        doc.edge("BAD: old, fresh (NEW);",
            "names a", "deal 0 = 0", "put 0 0 {-2 1000 MIN MAX} 0 = BAD", "put 0 0 0 {-1 1000 MIN MAX} = BAD",
            "prepare 0 = 0", "put 0 0 -2 0 = BAD", "put 0 0 0 1000 = BAD", "put 0 0 -1 0 = STATE", "put 0 0 999 999 = STATE",
            "deal 0 = 1", "put 1 0 999 999 = 1", "abandon 1 = 1", "deal 0 = 1", "put 1 0 -1 0 = 1");
        doc.edge("STATE: it isn't OPEN, or has a ROW for the NAME;",
            "names a b c d e", "deal 1 = 0", "put 0 0 -1 1 = 1", "put 0 0 -1 1 = STATE", "put 0 0 0 2 = STATE",
            "put 0 0 1000 0 = BAD", "put 0 1 -1 1 = 2", "put 0 {0 1} -1 1 = STATE", "put 0 2 -1 1 = 3", "put 0 3 -1 1 = 4",
            "put 0 {0 3} -1 1 = STATE", "put 0 4 -1 1 = FULL", "deal 0 = 1", "prepare 1 = 0", "put 1 4 -1 1 = STATE",
            "commit 1 = 2", "put 1 4 -1 1 = STATE", "step 0 1 = 1", "put 1 4 -1 1 = STATE", "prepare 0 = 0",
            "put 0 4 -1 1 = STATE", "step 0 1 = 1", "put 1 4 -1 1 = NONE");
        doc.edge("FULL: 4.",
            "names a b c d e", "deal 0 = 0", "put 0 0 0 0 = 1", "put 0 1 0 0 = 2", "put 0 2 0 0 = 3", "put 0 3 0 7 = 4",
            "put 0 4 0 0 = FULL", "put 0 4 0 1000 = BAD", "put 0 5 0 0 = NONE", "told 0 1 = 4", "abandon 0 = 4",
            "deal 0 = 0", "put 0 4 0 0 = 1");
    }

    private void prepare() {
        doc.in("Promise 12");
        doc.edge("A DEAL is PREPARED: 0;", "names a", "open 0 0:0:1 = 0", "prepare 0 = 0", "told 0 2 = 1", "of 0 6 = 0",
            "deal 0 = 1", "prepare 1 = 0");
        doc.edge("or, if it has WRONG, -10 less that, and it stays OPEN.",
            "names a b c d ab ab/c", "store 4 1", "open 0 0:9:1 = 0", "prepare 0 = -12", "told 0 2 = 0", "of 0 6 = -5",
            "put 0 1 0 0 = 2", "open 0 0:0:1 1:0:1 2:0:1 5:0:1 = 1", "prepare 1 = -43", "told 1 2 = 0", "told 1 3 = 33",
            "ready 0 2:0:1 = 2", "prepare 1 = -31", "open 0 2:0:1 = 3", "prepare 3 = -11", "abandon 2 = 1", "prepare 3 = 0",
            "abandon 3 = 1", "store 4 0", "prepare 1 = 0");
        doc.edge("NONE; STATE: it isn't OPEN.",
            "names a", "prepare {-1 0 3 4 MIN MAX} = NONE", "deal 0 = 0", "prepare {-1 1 4} = NONE", "prepare 0 = 0",
            "prepare 0 = STATE", "commit 0 = 2", "prepare 0 = STATE", "step 0 1 = 1", "prepare 0 = STATE", "step 0 1 = 1",
            "prepare 0 = NONE");
    }

    private void commit() {
        doc.in("Promise 13");
        doc.edge("A DEAL is COMMITTING: how many STEPS it takes.",
            "names a b c d", "ready 0 = 0", "commit 0 = 2", "told 0 2 = 2", "state 2 = 2", "step 0 20 = 2",
            "ready 0 0:0:1 = 0", "commit 0 = 3", "step 0 20 = 3", "ready 1 0:0:1 1:0:1 2:0:1 3:0:1 = 0", "commit 0 = 6",
            "state 2 = 6", "state 1 = 0", "step 0 20 = 6", "state 2 = 0");
        doc.edge("NONE; STATE: it isn't PREPARED, or another is COMMITTING.",
            "commit {-1 0 3 4 MIN MAX} = NONE", "deal 0 = 0", "commit 0 = STATE", "commit 1 = NONE", "prepare 0 = 0",
            "ready 0 = 1", "deal 0 = 2", "commit 0 = 2", "commit {0 1 2} = STATE", "step 0 1 = 1", "commit {0 1 2} = STATE",
            "step 0 1 = 1", "commit 0 = NONE", "commit 2 = STATE", "commit 1 = 2");
    }

    private void abandon() {
        doc.in("Promise 14");
        doc.edge("A DEAL goes: how many ROWS it had.",
            "names a b c d", "deal 0 = 0", "abandon 0 = 0", "open 0 0:0:1 1:0:1 2:0:1 3:0:1 = 0", "abandon 0 = 4",
            "ready 0 0:0:1 = 0", "abandon 0 = 1", "of 0 6 = -5", "told 0 0 = NONE", "state 5 = 0", "of 0 1 = 0", "deal 3 = 0",
            "told 0 1 = 0");
        doc.edge("NONE; STATE: it is COMMITTING.",
            "abandon {-1 0 3 4 MIN MAX} = NONE", "ready 0 = 0", "ready 0 = 1", "commit 0 = 2", "abandon 0 = STATE",
            "step 0 1 = 1", "abandon 0 = STATE", "abandon 1 = 0", "abandon 1 = NONE", "step 0 1 = 1", "abandon 0 = NONE");
    }

    private void repack() {
        doc.in("Promise 15");
        doc.edge("A REPACK begins: how many NAMES have STORED not 0.",
            "names a b c d", "repack = 0", "step 1 20 = 1", "store 0 1", "store 1 2", "store 2 3", "store 2 0",
            "going 1 3:-1:4", "step 0 1 = 1", "repack = 2", "state 3 = 1", "state 4 = 0", "step 1 20 = 3",
            "step 0 20 = 2", "repack = 3", "crash = 0", "going 1 0:-1:0", "step 0 1 = 1", "repack = 3", "crash = 1",
            "repack = 2");
        doc.edge("STATE: one runs.",
            "names a", "store 0 1", "repack = 1", "repack = STATE", "step 1 1 = 1", "repack = STATE", "state 4 = 1",
            "step 1 1 = 1", "repack = 1", "crash = 0", "repack = 1");
    }

    private void step() {
        doc.in("Promise 16");
        doc.edge("n STEPS (0 .. 20) of the one COMMITTING (kind 0), of the REPACK (1), or fewer: how many.",
            "names a b c d e", "step {0 1} {0 1 20} = 0", "do 1 0:-1:1 1:-1:1 2:-1:1 3:-1:1", "store 4 1", "repack = 5",
            "going 1 0:-1:2 1:-1:2 2:-1:2 3:-1:2", "step {0 1} 0 = 0", "state 2 = 6", "state 4 = 0", "step 1 4 = 4",
            "state 2 = 6", "state 4 = 4", "step 0 5 = 5", "state 2 = 1", "step 0 20 = 1", "step 0 20 = 0", "step 1 19 = 2",
            "step 1 20 = 0");
        doc.edge("NONE: kind; BAD: n.",
            "names a", "going 0 0:0:1", "repack = 0", "step {-1 2 MIN MAX} 1 = NONE", "step {-1 2} {-1 21} = NONE",
            "step {0 1} {-1 21 MIN MAX} = BAD", "state 2 = 3", "state 3 = 1", "step 0 20 = 3", "step 1 20 = 2",
            "step {0 1} {-1 21} = BAD");
    }

    private void crash() {
        doc.in("Promise 17");
        doc.edge("A CRASH: how many DEALS went.",
            "crash = 0", "deal 0 = 0", "crash = 1", "ready 0 = 0", "going 0", "2* deal 1", "crash = 4", "state 5 = 0",
            "state 0 = 0", "going 0", "step 0 1 = 1", "crash = 1", "state 0 = 1");
    }

    private void told() {
        doc.in("Promise 18");
        doc.edge("Of a DEAL what 0 KIND,", "deal 0 = 0", "deal 1 = 1", "deal 2 = 2", "deal 3 = 3", "told 0 0 = 0",
            "told 1 0 = 1", "told 2 0 = 2", "told 3 0 = 3");
        doc.edge("1 how many ROWS,", "names a b c d", "open 0 = 0", "told 0 1 = 0", "open 0 0:0:1 1:0:1 2:0:1 3:0:1 = 1",
            "told 1 1 = 4", "told 0 1 = 0");
        doc.edge("2 whether 0 OPEN, 1 PREPARED, 2 COMMITTING,",
            "deal 0 = 0", "deal 0 = 1", "told {0 1} 2 = 0", "prepare 1 = 0", "told 1 2 = 1", "told 0 2 = 0", "commit 1 = 2",
            "told 1 2 = 2", "step 0 1 = 1", "told 1 2 = 2");
        doc.edge("3 WRONG (of one that isn't OPEN: 0).",
            "names a a/b b", "open 0 0:1:1 = 0", "told 0 3 = 2", "abandon 0 = 1", "ready 1 0:-1:1 = 0", "told 0 3 = 0",
            "open 1 2:-1:1 1:-1:1 = 1", "told 1 3 = 13", "commit 0 = 3", "step 0 2 = 2", "told 0 3 = 0", "told 1 3 = 13",
            "step 0 1 = 1", "told 1 3 = 13", "open 0 0:0:1 = 0", "told 0 3 = 2");
        doc.edge("NONE.",
            "told {-1 0 3 4 MIN MAX} 0 = NONE", "deal 0 = 0", "told 0 {-1 4 MIN MAX} = NONE", "told {-1 1 4} 3 = NONE",
            "told 0 3 = 0", "abandon 0 = 0", "told 0 3 = NONE");
    }

    private void state() {
        doc.in("Promise 19");
        doc.edge("What 0 TIME,", "state 0 = 0", "10* do 0", "state 0 = 10", "undo = STATE", "crash = 0", "state 0 = 10");
        doc.edge("1 whether a RECORD is written,", "state 1 = 0", "going 0", "state 1 = 0", "step 0 1 = 1", "state 1 = 1",
            "step 0 1 = 1", "state 1 = 0");
        doc.edge("2 how many STEPS there are yet of the one COMMITTING (0: there is none),",
            "names a b c d", "state 2 = 0", "ready 1 0:0:1 1:0:1 2:0:1 3:0:1 = 0", "state 2 = 0", "commit 0 = 6",
            "state 2 = 6", "step 0 1 = 1", "state 2 = 5", "step 0 1 = 1", "state 2 = 4", "step 0 3 = 3", "state 2 = 1",
            "step 0 1 = 1", "state 2 = 0", "going 0", "state 2 = 2", "step 0 1 = 1", "state 2 = 1");
        doc.edge("3 whether a REPACK runs,", "state 3 = 0", "repack = 0", "state 3 = 1", "step 1 1 = 1", "state 3 = 0");
        doc.edge("4 how many NAMES it WROTE (0: none runs),",
            "names a b", "do 1 0:0:1 1:0:1", "state 4 = 0", "repack = 2", "state 4 = 0", "step 1 1 = 1", "state 4 = 1",
            "store 0 0", "state 4 = 1", "step 1 1 = 1", "state 4 = 2", "step 1 1 = 1", "state 4 = 0", "repack = 1",
            "state 4 = 0", "step 1 1 = 1", "state 4 = 1", "crash = 0", "state 4 = 0");
        doc.edge("5 which DEALS there are (bits),",
            "state 5 = 0", "deal 0 = 0", "state 5 = 1", "deal 0 = 1", "deal 0 = 2", "deal 0 = 3", "state 5 = 15",
            "abandon 0 = 0", "state 5 = 14", "prepare 3 = 0", "commit 3 = 2", "abandon 1 = 0", "state 5 = 12", "step 0 2 = 2",
            "state 5 = 4");
        doc.edge("6 MOST (bits).",
            "names a", "state 6 = 0", "open 0 0:1:1 = 0", "state 6 = 0", "open 0 0:0:1 = 1", "state 6 = 3",
            "deal 0 = 2", "deal 0 = 3", "state 6 = 15");
        doc.edge("NONE.", "state {-1 7 MIN MAX} = NONE", "state 6 = 0");
    }
}
