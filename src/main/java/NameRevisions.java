/** Names with loose and packed revisions, changed by deals; every call's words are in ../shared/DOC.md. */
public final class NameRevisions {
    public static final int NONE = -1, BAD = -2, STATE = -3, FULL = -4;
    public static final long NO = Long.MIN_VALUE;

    private static final int NOT_ANY = -5, FAULTY = -10;
    private static final int NOTHING = -11, CAST = -12, PLACE = -13, SIZE = -14;

    private static final int LAST_SIGN = 127, MAX_TEXT = 100;
    private static final int MAX_NAMES = 12, MAX_BYTES = 8, MAX_PARTS = 3, MAX_LETTERS = 2;
    private static final int MAX_REVISION = 999, MAX_ENTRIES = 6;
    private static final int MAX_DEALS = 4, MAX_ROWS = 4, MAX_STEPS = 20, MAX_AFTER = 9;
    private static final int MAX_SEEN = 5, MAX_PLAN = 10, MAX_BOOK = 8, MAX_PAIRS = 10;
    private static final int MAX_TAPES = 6, MAX_ITEMS = 60, CUT_SHORT = 100;

    private static final int PLAIN = 0, FORCED = 1, RISING = 2, KEEPING = 3, KINDS = 4;
    private static final int[] KIND_ABOVE = {-1, PLAIN, PLAIN, FORCED};
    private static final int ABSENT = -1, OPEN = 0, PREPARED = 1, COMMITTING = 2;
    private static final int BY_LOCK = 1, BY_KIND = 2, BY_CLASH = 3;

    private static final int OF_REPACK = 1, STEP_KINDS = 2;
    private static final int PLAN_CRASH = 2, PLAN_LOSS = 3, PLAN_KINDS = 4;

    private static final int EMPTY = -1, BYTES = 0, SHORTS = 1, INTS = 2, LONGS = 3, BOOLEANS = 4, SORTS = 5;

    private final Text text = new Text();
    private final Store now = new Store();
    private final Store image = new Store();
    // What is only asked is tried out here, so that no answer changes what is.
    private final Store trial = new Store();
    private final Orders tally = new Orders();
    private final Tape[] tapes = new Tape[MAX_TAPES];
    private boolean imaged;

    public NameRevisions() {
        for (int t = 0; t < MAX_TAPES; t++) {
            tapes[t] = new Tape();
        }
    }

    // ---- names

    public int feed(int sign) {
        if (sign < 0 || sign > LAST_SIGN) {
            return BAD;
        }
        if (text.size >= MAX_TEXT) {
            return FULL;
        }
        text.signs[text.size] = (byte) sign;
        text.size++;
        return text.size;
    }

    public int name() {
        int fault = text.fault();
        int answer = fault >= 0 ? FAULTY - fault : now.nameFor(text);
        text.size = 0;
        return answer;
    }

    public int of(int name, int what) {
        if (!now.isName(name)) {
            return NONE;
        }
        Name it = now.names[name];
        switch (what) {
            case 0: return now.valueOf(name);
            case 1: return it.stored();
            case 2: return it.loose;
            case 3: return it.packed;
            case 4: return it.parts;
            case 5: return it.journal.size;
            case 6: return now.lockerOf(name);
            case 7: return now.placeAmong(name, now.allNames());
            default: return NONE;
        }
    }

    public int folder(int name, int other) {
        if (!now.isName(name) || !now.isName(other)) {
            return NONE;
        }
        return now.names[name].isFolderOf(now.names[other]) ? 1 : 0;
    }

    public int list(int name, int k) {
        if ((name != -1 && !now.isName(name)) || k < 0) {
            return NONE;
        }
        int listed = now.namesWithValue();
        return now.numberAmong(name == -1 ? listed : listed & now.namesUnder(name), k);
    }

    public int journal(int name, int k, int what) {
        if (!now.isName(name)) {
            return NONE;
        }
        Journal it = now.names[name].journal;
        if (k < 0 || k >= it.size) {
            return NONE;
        }
        switch (what) {
            case 0: return it.times[k];
            case 1: return it.before[k];
            case 2: return it.fresh[k];
            default: return NONE;
        }
    }

    public int at(int name, int time) {
        if (!now.isName(name)) {
            return NONE;
        }
        if (time < 0) {
            return BAD;
        }
        Name it = now.names[name];
        return it.journal.wasAt(time, it.stored());
    }

    public int expire(int time) {
        int gone = 0;
        for (int n = 0; n < now.named; n++) {
            gone += now.names[n].journal.cut(time);
        }
        return gone;
    }

    // ---- deals

    public int deal(int kind) {
        if (kind < 0 || kind >= KINDS) {
            return NONE;
        }
        for (int d = 0; d < MAX_DEALS; d++) {
            if (now.deals[d].phase == ABSENT) {
                now.deals[d].begin(kind);
                return d;
            }
        }
        return FULL;
    }

    public int put(int deal, int name, int old, int fresh) {
        if (!now.isDeal(deal) || !now.isName(name)) {
            return NONE;
        }
        if ((old != -1 && !isRevision(old)) || !isRevision(fresh)) {
            return BAD;
        }
        Deal it = now.deals[deal];
        if (it.phase != OPEN || it.rowFor(name) >= 0) {
            return STATE;
        }
        if (it.rows >= MAX_ROWS) {
            return FULL;
        }
        return it.add(name, old, fresh);
    }

    public int prepare(int deal) {
        if (!now.isDeal(deal)) {
            return NONE;
        }
        if (now.deals[deal].phase != OPEN) {
            return STATE;
        }
        int wrong = now.wrongOf(deal);
        if (wrong != 0) {
            return FAULTY - wrong;
        }
        now.deals[deal].phase = PREPARED;
        return 0;
    }

    public int commit(int deal) {
        if (!now.isDeal(deal)) {
            return NONE;
        }
        if (now.deals[deal].phase != PREPARED || now.committing() >= 0) {
            return STATE;
        }
        now.deals[deal].phase = COMMITTING;
        return now.stepsLeft();
    }

    public int abandon(int deal) {
        if (!now.isDeal(deal)) {
            return NONE;
        }
        if (now.deals[deal].phase == COMMITTING) {
            return STATE;
        }
        now.deals[deal].phase = ABSENT;
        return now.deals[deal].rows;
    }

    public int repack() {
        if (now.repacking) {
            return STATE;
        }
        now.beginRepack();
        return Integer.bitCount(now.namesStored());
    }

    public int step(int kind, int n) {
        if (kind < 0 || kind >= STEP_KINDS) {
            return NONE;
        }
        if (n < 0 || n > MAX_STEPS) {
            return BAD;
        }
        return now.takeSteps(kind, n);
    }

    public int crash() {
        return now.breakDown();
    }

    public int told(int deal, int what) {
        if (!now.isDeal(deal)) {
            return NONE;
        }
        Deal it = now.deals[deal];
        switch (what) {
            case 0: return it.kind;
            case 1: return it.rows;
            case 2: return it.phase;
            case 3: return it.phase == OPEN ? now.wrongOf(deal) : 0;
            default: return NONE;
        }
    }

    public int state(int what) {
        switch (what) {
            case 0: return now.time;
            case 1: return now.recorded ? 1 : 0;
            case 2: return now.stepsLeft();
            case 3: return now.repacking ? 1 : 0;
            case 4: return now.repacking ? now.namesWritten() : 0;
            case 5: return now.allDeals();
            case 6: return mostThatCanGo();
            default: return NONE;
        }
    }

    // ---- what can be

    public int after(int kind, int n, int name) {
        if (kind < 0 || kind >= STEP_KINDS || !now.isName(name)) {
            return NONE;
        }
        if (n < 0 || n > MAX_AFTER) {
            return BAD;
        }
        trial.become(now);
        trial.takeSteps(kind, n);
        trial.breakDown();
        return trial.valueOf(name);
    }

    public int orders(int set) {
        if (!now.isSet(set)) {
            return NONE;
        }
        tally.run(now, set, -1, 0);
        return tally.all;
    }

    public int could(int set, int name, int v) {
        if (!now.isSet(set) || !now.isName(name)) {
            return NONE;
        }
        if (!isRevision(v)) {
            return BAD;
        }
        tally.run(now, set, name, v);
        return tally.ending;
    }

    public int see(int name, int v) {
        return tellByHand(now.seen, name, v);
    }

    public int fits(int set, int what) {
        if (!now.isSet(set) || what < 0 || what > 1) {
            return NONE;
        }
        tally.run(now, set, -1, 0);
        return what == 0 ? tally.fitting : tally.firstFitting;
    }

    public long odds(int set, int name, int v, int part) {
        if (!now.isSet(set) || !now.isName(name) || !isRevision(v)) {
            return NO;
        }
        tally.run(now, set, name, v);
        return partOfFraction(tally.ending, tally.all, part);
    }

    public long mean(int part) {
        int entries = 0;
        for (int n = 0; n < now.named; n++) {
            entries += now.names[n].journal.size;
        }
        return partOfFraction(entries, now.named, part);
    }

    // ---- plans, books

    public int plan(int what, int n) {
        if (what == -1) {
            now.plan.size = 0;
            return 0;
        }
        if (what < 0 || what >= PLAN_KINDS || (what == PLAN_LOSS && !now.isName(n))) {
            return NONE;
        }
        return now.plan.add(what, n);
    }

    public int ends(int name) {
        if (!now.isName(name)) {
            return NONE;
        }
        trial.become(now);
        trial.carryOutPlan();
        return trial.valueOf(name);
    }

    public int book(int name, int v) {
        return tellByHand(now.book, name, v);
    }

    public int looked() {
        for (int r = 0; r < now.book.size; r++) {
            if (now.valueOf(now.book.left[r]) != now.book.right[r]) {
                return r;
            }
        }
        return NOT_ANY;
    }

    // ---- judging, the image, tapes

    public int judge(int tape, int i) {
        if (!isTape(tape)) {
            return NONE;
        }
        Tape it = tapes[tape];
        if (it.sort != EMPTY && it.sort != INTS) {
            return CAST;
        }
        for (int n = 0; n < now.named; n++) {
            if (i < 0 || i >= it.size - n) {
                return CUT_SHORT + n;
            }
            if (it.items[i + n] != now.valueOf(n)) {
                return n;
            }
        }
        return NOT_ANY;
    }

    public int image() {
        image.become(now);
        imaged = true;
        return now.named;
    }

    public int undo() {
        if (!imaged) {
            return STATE;
        }
        now.become(image);
        return now.named;
    }

    public int taken(int deal, int k) {
        if (k < 0 || k >= KINDS) {
            return BAD;
        }
        if (!now.isDeal(deal)) {
            return NOTHING;
        }
        int kind = now.deals[deal].kind;
        return isKindUnder(kind, k) ? kind : CAST;
    }

    public int count(int what) {
        switch (what) {
            case 0: return now.named;
            case 1: return Integer.bitCount(now.allDeals());
            case 2: return now.seen.size;
            case 3: return now.plan.size;
            case 4: return now.book.size;
            case 5: return text.size;
            default: return BAD;
        }
    }

    public int tape(int tape, int sort, int n) {
        if (!isTape(tape)) {
            return NONE;
        }
        if (sort < EMPTY || sort >= SORTS) {
            return BAD;
        }
        if (sort == EMPTY) {
            tapes[tape].begin(EMPTY, 0);
            return 1;
        }
        if (n > MAX_ITEMS) {
            return BAD;
        }
        if (n < 0) {
            return SIZE;
        }
        tapes[tape].begin(sort, n);
        return 1;
    }

    public int item(int tape, int i, long v) {
        if (!isTape(tape)) {
            return NONE;
        }
        Tape it = tapes[tape];
        if (it.sort == EMPTY) {
            return NOTHING;
        }
        if (i < 0 || i >= it.size) {
            return PLACE;
        }
        it.items[i] = it.narrowed(v);
        return 1;
    }

    public long read(int tape, int i) {
        if (!isTape(tape)) {
            return NO;
        }
        Tape it = tapes[tape];
        // One that holds nothing has size 0, so it has no such place.
        return i < 0 || i >= it.size ? NO : it.items[i];
    }

    public int shift(int tape, int i, int other, int j, int n) {
        if (!isTape(tape) || !isTape(other)) {
            return NONE;
        }
        Tape from = tapes[tape];
        Tape to = tapes[other];
        if (from.sort == EMPTY || to.sort == EMPTY) {
            return NOTHING;
        }
        if (from.sort != to.sort) {
            return CAST;
        }
        if (!from.holds(i, n) || !to.holds(j, n)) {
            return PLACE;
        }
        System.arraycopy(from.items, i, to.items, j, n);
        return n;
    }

    // ---- what several calls share

    private int tellByHand(Pairs rows, int name, int v) {
        if (name == -1) {
            rows.size = 0;
            return 0;
        }
        if (!now.isName(name)) {
            return NONE;
        }
        if (!isRevision(v)) {
            return BAD;
        }
        return rows.add(name, v);
    }

    private int mostThatCanGo() {
        tally.run(now, now.dealsThatCanGo(), -1, 0);
        return tally.most;
    }

    private static boolean isRevision(int v) {
        return v >= 0 && v <= MAX_REVISION;
    }

    private static boolean isTape(int tape) {
        return tape >= 0 && tape < MAX_TAPES;
    }

    private static boolean isKindUnder(int kind, int above) {
        int at = kind;
        for (int level = 0; level < KINDS && at >= 0 && at < KINDS; level++) {
            if (at == above) {
                return true;
            }
            at = KIND_ABOVE[at];
        }
        return false;
    }

    private static long partOfFraction(int above, int below, int part) {
        if (below <= 0 || part < 0 || part > 1) {
            return NO;
        }
        int common = commonDivisor(above, below);
        return part == 0 ? above / common : below / common;
    }

    private static int commonDivisor(int above, int below) {
        for (int divisor = below; divisor > 1; divisor--) {
            if (above % divisor == 0 && below % divisor == 0) {
                return divisor;
            }
        }
        return 1;
    }

    /** The signs fed since the last name. */
    private static final class Text {
        final byte[] signs = new byte[MAX_TEXT];
        int size;

        /** The place of the first byte with which no name begins so; -1: the text is a name. */
        int fault() {
            int part = 1;
            int letters = 0;
            for (int i = 0; i < size; i++) {
                int sign = signs[i];
                if (sign >= 'a' && sign <= 'f' && letters < MAX_LETTERS) {
                    letters++;
                } else if (sign == '/' && letters > 0 && part < MAX_PARTS) {
                    part++;
                    letters = 0;
                } else {
                    return i;
                }
            }
            return letters > 0 ? -1 : size;
        }

        /** The bytes of a name, the first one highest: longs are then in the order of the texts. */
        long key() {
            long key = 0;
            for (int i = 0; i < MAX_BYTES; i++) {
                key = key << 8 | (i < size ? signs[i] : 0);
            }
            return key;
        }

        int parts() {
            int parts = 1;
            for (int i = 0; i < size; i++) {
                if (signs[i] == '/') {
                    parts++;
                }
            }
            return parts;
        }
    }

    /** What was done to one name, the oldest first. */
    private static final class Journal {
        final int[] times = new int[MAX_ENTRIES];
        final int[] before = new int[MAX_ENTRIES];
        final int[] fresh = new int[MAX_ENTRIES];
        int size;

        void add(int time, int stored, int coming) {
            if (size >= MAX_ENTRIES) {
                dropOldest(1);
            }
            times[size] = time;
            before[size] = stored;
            fresh[size] = coming;
            size++;
        }

        /** Drops all that came ahead of a time, and tells how many. */
        int cut(int time) {
            int gone = 0;
            // Entries come in the order of their times, so the ones to go are the first ones.
            while (gone < size && times[gone] < time) {
                gone++;
            }
            dropOldest(gone);
            return gone;
        }

        void dropOldest(int gone) {
            int kept = size - gone;
            for (int e = 0; e < kept; e++) {
                times[e] = times[e + gone];
                before[e] = before[e + gone];
                fresh[e] = fresh[e + gone];
            }
            size = kept;
        }

        int wasAt(int time, int stored) {
            for (int e = size - 1; e >= 0; e--) {
                if (times[e] <= time) {
                    return fresh[e];
                }
            }
            return size > 0 ? before[0] : stored;
        }

        void become(Journal other) {
            size = other.size;
            System.arraycopy(other.times, 0, times, 0, MAX_ENTRIES);
            System.arraycopy(other.before, 0, before, 0, MAX_ENTRIES);
            System.arraycopy(other.fresh, 0, fresh, 0, MAX_ENTRIES);
        }
    }

    /** A name, its revisions (0: none) and its journal. */
    private static final class Name {
        final Journal journal = new Journal();
        long key;
        int bytes;
        int parts;
        // The names (as bits) that are its folders or of which it is one.
        int kin;
        int loose;
        int packed;
        // What the repack that runs has written for it.
        int written;

        void begin(Text text) {
            key = text.key();
            bytes = text.size;
            parts = text.parts();
            kin = 0;
            loose = 0;
            packed = 0;
            written = 0;
            journal.size = 0;
        }

        int stored() {
            return loose != 0 ? loose : packed;
        }

        boolean isFolderOf(Name other) {
            if (parts >= other.parts || bytes >= MAX_BYTES) {
                return false;
            }
            // Up to the byte behind this one's last: there the other must go on with a slash.
            int rest = 8 * (MAX_BYTES - bytes - 1);
            return other.key >>> rest == (key >>> rest | '/');
        }

        void apply(int time, int fresh) {
            journal.add(time, stored(), fresh);
            loose = fresh;
            if (fresh == 0) {
                packed = 0;
            }
        }

        void endRepack() {
            // Asked ahead of the new pack: what was deleted must not come back with it.
            packed = stored() == 0 ? 0 : written;
            if (loose == packed) {
                loose = 0;
            }
        }

        void become(Name other) {
            key = other.key;
            bytes = other.bytes;
            parts = other.parts;
            kin = other.kin;
            loose = other.loose;
            packed = other.packed;
            written = other.written;
            journal.become(other.journal);
        }
    }

    /** A deal, or the place for one (its phase is ABSENT then). */
    private static final class Deal {
        final int[] names = new int[MAX_ROWS];
        final int[] olds = new int[MAX_ROWS];
        final int[] freshes = new int[MAX_ROWS];
        int rows;
        int kind;
        int phase = ABSENT;

        void begin(int ofKind) {
            kind = ofKind;
            phase = OPEN;
            rows = 0;
        }

        int add(int name, int old, int fresh) {
            names[rows] = name;
            olds[rows] = old;
            freshes[rows] = fresh;
            rows++;
            return rows;
        }

        int rowFor(int name) {
            for (int r = 0; r < rows; r++) {
                if (names[r] == name) {
                    return r;
                }
            }
            return -1;
        }

        boolean locks(int name) {
            return (phase == PREPARED || phase == COMMITTING) && rowFor(name) >= 0;
        }

        boolean isAskedFor(int row, int stored) {
            boolean expected = olds[row] == -1 || olds[row] == stored;
            switch (kind) {
                case FORCED: return true;
                case RISING: return expected && (freshes[row] == 0 || freshes[row] > stored);
                case KEEPING: return freshes[row] != 0;
                default: return expected;
            }
        }

        /** All names that its rows are for, as bits; if wanted, but those that the rows take away. */
        int namesInRows(boolean onlyComing) {
            int set = 0;
            for (int r = 0; r < rows; r++) {
                if (!onlyComing || freshes[r] != 0) {
                    set |= 1 << names[r];
                }
            }
            return set;
        }

        void become(Deal other) {
            rows = other.rows;
            kind = other.kind;
            phase = other.phase;
            System.arraycopy(other.names, 0, names, 0, MAX_ROWS);
            System.arraycopy(other.olds, 0, olds, 0, MAX_ROWS);
            System.arraycopy(other.freshes, 0, freshes, 0, MAX_ROWS);
        }
    }

    /** Rows of two numbers, told by hand. */
    private static final class Pairs {
        final int[] left = new int[MAX_PAIRS];
        final int[] right = new int[MAX_PAIRS];
        final int most;
        int size;

        Pairs(int ofMost) {
            most = Math.min(ofMost, MAX_PAIRS);
        }

        int add(int one, int two) {
            if (size >= most) {
                return FULL;
            }
            left[size] = one;
            right[size] = two;
            size++;
            return size;
        }

        void become(Pairs other) {
            size = other.size;
            System.arraycopy(other.left, 0, left, 0, MAX_PAIRS);
            System.arraycopy(other.right, 0, right, 0, MAX_PAIRS);
        }
    }

    /** All that an image holds. Sets of names and of deals are bits. */
    private static final class Store {
        final Name[] names = new Name[MAX_NAMES];
        final Deal[] deals = new Deal[MAX_DEALS];
        final Pairs seen = new Pairs(MAX_SEEN);
        final Pairs plan = new Pairs(MAX_PLAN);
        final Pairs book = new Pairs(MAX_BOOK);
        // Room for the revisions stored, used again by each call.
        final int[] storedNow = new int[MAX_NAMES];
        int named;
        int time;
        boolean recorded;
        // How many rows of the deal that is committing are applied.
        int applied;
        boolean repacking;
        // The key of the name that the repack reached last; below every key at first.
        long reached;

        Store() {
            for (int n = 0; n < MAX_NAMES; n++) {
                names[n] = new Name();
            }
            for (int d = 0; d < MAX_DEALS; d++) {
                deals[d] = new Deal();
            }
        }

        void become(Store other) {
            for (int n = 0; n < MAX_NAMES; n++) {
                names[n].become(other.names[n]);
            }
            for (int d = 0; d < MAX_DEALS; d++) {
                deals[d].become(other.deals[d]);
            }
            seen.become(other.seen);
            plan.become(other.plan);
            book.become(other.book);
            named = other.named;
            time = other.time;
            recorded = other.recorded;
            applied = other.applied;
            repacking = other.repacking;
            reached = other.reached;
        }

        // -- names

        boolean isName(int name) {
            return name >= 0 && name < named;
        }

        int allNames() {
            return (1 << named) - 1;
        }

        /** The number of the name that a text is, which comes if it isn't there yet. */
        int nameFor(Text text) {
            long key = text.key();
            for (int n = 0; n < named; n++) {
                if (names[n].key == key) {
                    return n;
                }
            }
            if (named >= MAX_NAMES) {
                return FULL;
            }
            names[named].begin(text);
            named++;
            joinKin(named - 1);
            return named - 1;
        }

        void joinKin(int name) {
            for (int n = 0; n < name; n++) {
                if (names[n].isFolderOf(names[name]) || names[name].isFolderOf(names[n])) {
                    names[n].kin |= 1 << name;
                    names[name].kin |= 1 << n;
                }
            }
        }

        int namesUnder(int folder) {
            int set = 0;
            for (int n = 0; n < named; n++) {
                if (names[folder].isFolderOf(names[n])) {
                    set |= 1 << n;
                }
            }
            return set;
        }

        int namesStored() {
            int set = 0;
            for (int n = 0; n < named; n++) {
                if (names[n].stored() != 0) {
                    set |= 1 << n;
                }
            }
            return set;
        }

        int namesWithValue() {
            int set = 0;
            for (int n = 0; n < named; n++) {
                if (valueOf(n) != 0) {
                    set |= 1 << n;
                }
            }
            return set;
        }

        /** How many of a set of names are ahead of a name by order. */
        int placeAmong(int name, int set) {
            int ahead = 0;
            for (int n = 0; n < named; n++) {
                if ((set >> n & 1) != 0 && names[n].key < names[name].key) {
                    ahead++;
                }
            }
            return ahead;
        }

        /** Number k by order of a set of names. */
        int numberAmong(int set, int k) {
            for (int n = 0; n < named; n++) {
                if ((set >> n & 1) != 0 && placeAmong(n, set) == k) {
                    return n;
                }
            }
            return NOT_ANY;
        }

        int valueOf(int name) {
            int d = recorded ? committing() : -1;
            int row = d >= 0 ? deals[d].rowFor(name) : -1;
            return row >= 0 ? deals[d].freshes[row] : names[name].stored();
        }

        // -- deals

        boolean isDeal(int deal) {
            return deal >= 0 && deal < MAX_DEALS && deals[deal].phase != ABSENT;
        }

        boolean isSet(int set) {
            return (set & ~dealsThatCanGo()) == 0;
        }

        int allDeals() {
            int set = 0;
            for (int d = 0; d < MAX_DEALS; d++) {
                if (deals[d].phase != ABSENT) {
                    set |= 1 << d;
                }
            }
            return set;
        }

        int dealsThatCanGo() {
            int d = committing();
            return d >= 0 ? allDeals() & ~(1 << d) : allDeals();
        }

        int committing() {
            for (int d = 0; d < MAX_DEALS; d++) {
                if (deals[d].phase == COMMITTING) {
                    return d;
                }
            }
            return -1;
        }

        int lockerOf(int name) {
            for (int d = 0; d < MAX_DEALS; d++) {
                if (deals[d].locks(name)) {
                    return d;
                }
            }
            return NOT_ANY;
        }

        /** The names in rows of deals, other than one, that are prepared or committing. */
        int namesOfOthers(int deal, boolean onlyComing) {
            int set = 0;
            for (int d = 0; d < MAX_DEALS; d++) {
                boolean locking = deals[d].phase == PREPARED || deals[d].phase == COMMITTING;
                if (d != deal && locking) {
                    set |= deals[d].namesInRows(onlyComing);
                }
            }
            return set;
        }

        int wrongOf(int deal) {
            for (int n = 0; n < named; n++) {
                storedNow[n] = names[n].stored();
            }
            return wrongBy(deals[deal], storedNow, namesOfOthers(deal, false), namesOfOthers(deal, true));
        }

        /** What is wrong of a deal, other deals locking some names and being about to put some there. */
        int wrongBy(Deal deal, int[] stored, int locked, int coming) {
            int there = namesThere(deal, stored, coming);
            for (int r = 0; r < deal.rows; r++) {
                int name = deal.names[r];
                if ((locked >> name & 1) != 0) {
                    return 10 * r + BY_LOCK;
                }
                if (!deal.isAskedFor(r, stored[name])) {
                    return 10 * r + BY_KIND;
                }
                if (deal.freshes[r] != 0 && (names[name].kin & there) != 0) {
                    return 10 * r + BY_CLASH;
                }
            }
            return 0;
        }

        int namesThere(Deal deal, int[] stored, int coming) {
            int there = coming;
            for (int n = 0; n < named; n++) {
                if (stored[n] != 0) {
                    there |= 1 << n;
                }
            }
            return there & ~deal.namesInRows(false) | deal.namesInRows(true);
        }

        // -- steps

        int takeSteps(int kind, int n) {
            int taken = 0;
            while (taken < n && (kind == OF_REPACK ? stepOfRepack() : stepOfDeal())) {
                taken++;
            }
            return taken;
        }

        int stepsLeft() {
            int d = committing();
            if (d < 0) {
                return 0;
            }
            return deals[d].rows - applied + (recorded ? 1 : 2);
        }

        /** Whether there was a step to take. */
        boolean stepOfDeal() {
            int d = committing();
            if (d < 0) {
                return false;
            }
            Deal deal = deals[d];
            if (!recorded) {
                recorded = true;
                applied = 0;
            } else if (applied < deal.rows) {
                names[deal.names[applied]].apply(time, deal.freshes[applied]);
                applied++;
            } else {
                recorded = false;
                applied = 0;
                deal.phase = ABSENT;
                time++;
            }
            return true;
        }

        void beginRepack() {
            repacking = true;
            reached = 0;
            for (int n = 0; n < named; n++) {
                names[n].written = 0;
            }
        }

        /** Whether there was a step to take. */
        boolean stepOfRepack() {
            if (!repacking) {
                return false;
            }
            int next = numberAmong(namesStored() & namesBehind(reached), 0);
            if (next >= 0) {
                names[next].written = names[next].stored();
                reached = names[next].key;
            } else {
                for (int n = 0; n < named; n++) {
                    names[n].endRepack();
                }
                repacking = false;
            }
            return true;
        }

        int namesBehind(long key) {
            int set = 0;
            for (int n = 0; n < named; n++) {
                if (names[n].key > key) {
                    set |= 1 << n;
                }
            }
            return set;
        }

        int namesWritten() {
            int written = 0;
            for (int n = 0; n < named; n++) {
                if (names[n].written != 0) {
                    written++;
                }
            }
            return written;
        }

        /** A crash; tells how many deals went. */
        int breakDown() {
            int gone = Integer.bitCount(allDeals());
            for (int left = recorded ? stepsLeft() : 0; left > 0; left--) {
                stepOfDeal();
            }
            for (int d = 0; d < MAX_DEALS; d++) {
                deals[d].phase = ABSENT;
            }
            repacking = false;
            return gone;
        }

        void carryOutPlan() {
            for (int r = 0; r < plan.size; r++) {
                int what = plan.left[r];
                if (what == PLAN_CRASH) {
                    breakDown();
                } else if (what == PLAN_LOSS) {
                    names[plan.right[r]].loose = 0;
                } else {
                    takeSteps(what, 1);
                }
            }
        }
    }

    /** In how many orders the deals of a set can go, and what comes of that. */
    private static final class Orders {
        // What is stored when so many deals have gone, along the order that is tried just now.
        final int[][] stored = new int[MAX_DEALS + 1][MAX_NAMES];
        int set;
        int name;
        int revision;
        int all;
        int ending;
        int fitting;
        int firstFitting;
        int most;

        /** Tries all orders of a set; ending: those by which a revision is stored for a name (-1: none) then. */
        void run(Store store, int ofSet, int ofName, int v) {
            set = ofSet;
            name = ofName;
            revision = v;
            all = 0;
            ending = 0;
            fitting = 0;
            firstFitting = NOT_ANY;
            most = 0;
            for (int n = 0; n < store.named; n++) {
                stored[0][n] = store.valueOf(n);
            }
            letGo(this, store, 0, ofSet, 0);
        }

        /** Lets each of the deals left go next that can, the least number first. */
        private static void letGo(Orders tally, Store store, int depth, int left, int digits) {
            tally.noteGone(tally.set & ~left);
            if (left == 0) {
                tally.noteOrder(store, tally.stored[depth], digits);
            }
            for (int d = 0; d < MAX_DEALS && depth < MAX_DEALS; d++) {
                Deal deal = store.deals[d];
                int[] here = tally.stored[depth];
                if ((left >> d & 1) != 0 && store.wrongBy(deal, here, 0, 0) == 0) {
                    int[] next = tally.stored[depth + 1];
                    System.arraycopy(here, 0, next, 0, MAX_NAMES);
                    for (int r = 0; r < deal.rows; r++) {
                        next[deal.names[r]] = deal.freshes[r];
                    }
                    letGo(tally, store, depth + 1, left & ~(1 << d), digits * 10 + d + 1);
                }
            }
        }

        /** The deals gone so far are themselves a set that can go. */
        void noteGone(int gone) {
            int more = Integer.bitCount(gone) - Integer.bitCount(most);
            if (more > 0 || (more == 0 && gone < most)) {
                most = gone;
            }
        }

        void noteOrder(Store store, int[] last, int digits) {
            all++;
            if (name >= 0 && name < MAX_NAMES && last[name] == revision) {
                ending++;
            }
            Pairs seen = store.seen;
            for (int r = 0; r < seen.size; r++) {
                if (last[seen.left[r]] != seen.right[r]) {
                    return;
                }
            }
            if (fitting == 0) {
                firstFitting = digits;
            }
            fitting++;
        }
    }

    /** A row of items of one sort, kept as longs, or nothing. */
    private static final class Tape {
        final long[] items = new long[MAX_ITEMS];
        int sort = EMPTY;
        int size;

        void begin(int ofSort, int n) {
            sort = ofSort;
            size = n;
            for (int i = 0; i < n; i++) {
                items[i] = 0;
            }
        }

        /** Whether there are n items from a place on. */
        boolean holds(int place, int n) {
            return n >= 0 && place >= 0 && place <= size && n <= size - place;
        }

        long narrowed(long v) {
            switch (sort) {
                case BYTES: return (byte) v;
                case SHORTS: return (short) v;
                case INTS: return (int) v;
                case BOOLEANS: return v != 0 ? 1 : 0;
                default: return v;
            }
        }
    }
}
