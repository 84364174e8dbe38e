import java.util.ArrayList;
import java.util.Arrays;
import java.util.Collections;
import java.util.List;
import java.util.TreeMap;

/**
 * The document once more, in the plainest words that the Java library has: texts are Strings, all orders are
 * written out, and what is only asked is done to a copy. ModelTest holds the program against it.
 */
final class Model {
    private static final int NONE = -1, BAD = -2, STATE = -3, FULL = -4;
    private static final long NO = Long.MIN_VALUE;

    private static final class Row {
        final int name, old, fresh;

        Row(int name, int old, int fresh) {
            this.name = name;
            this.old = old;
            this.fresh = fresh;
        }
    }

    private static final class Bargain {
        final int kind;
        List<Row> rows = new ArrayList<>();
        String phase = "OPEN";

        Bargain(int kind) {
            this.kind = kind;
        }

        Bargain copy() {
            Bargain copy = new Bargain(kind);
            copy.rows = new ArrayList<>(rows);
            copy.phase = phase;
            return copy;
        }

        Row rowFor(int name) {
            for (Row row : rows) {
                if (row.name == name) {
                    return row;
                }
            }
            return null;
        }
    }

    /** All that the image holds. */
    private static final class World {
        List<String> names = new ArrayList<>();
        TreeMap<Integer, Integer> loose = new TreeMap<>();
        TreeMap<Integer, Integer> pack = new TreeMap<>();
        int time;
        TreeMap<Integer, Bargain> deals = new TreeMap<>();
        boolean record;
        List<Row> toApply = new ArrayList<>();
        TreeMap<Integer, Integer> written; // null: no repack runs
        String reached;
        List<List<int[]>> journals = new ArrayList<>();
        List<int[]> seen = new ArrayList<>();
        List<int[]> plan = new ArrayList<>();
        List<int[]> book = new ArrayList<>();

        World copy() {
            World copy = new World();
            copy.names = new ArrayList<>(names);
            copy.loose = new TreeMap<>(loose);
            copy.pack = new TreeMap<>(pack);
            copy.time = time;
            for (int d : deals.keySet()) {
                copy.deals.put(d, deals.get(d).copy());
            }
            copy.record = record;
            copy.toApply = new ArrayList<>(toApply);
            copy.written = written == null ? null : new TreeMap<>(written);
            copy.reached = reached;
            for (List<int[]> journal : journals) {
                copy.journals.add(new ArrayList<>(journal));
            }
            copy.seen = new ArrayList<>(seen);
            copy.plan = new ArrayList<>(plan);
            copy.book = new ArrayList<>(book);
            return copy;
        }

        boolean isName(int name) {
            return 0 <= name && name < names.size();
        }

        int stored(int name) {
            return loose.containsKey(name) ? loose.get(name) : pack.getOrDefault(name, 0);
        }

        Bargain committing() {
            for (Bargain deal : deals.values()) {
                if (deal.phase.equals("COMMITTING")) {
                    return deal;
                }
            }
            return null;
        }

        int value(int name) {
            if (record && committing().rowFor(name) != null) {
                return committing().rowFor(name).fresh;
            }
            return stored(name);
        }

        boolean folder(int name, int other) {
            return names.get(other).startsWith(names.get(name) + "/");
        }

        void apply(Row row) {
            List<int[]> journal = journals.get(row.name);
            journal.add(new int[] {time, stored(row.name), row.fresh});
            if (journal.size() > 6) {
                journal.remove(0);
            }
            if (row.fresh != 0) {
                loose.put(row.name, row.fresh);
            } else {
                loose.remove(row.name);
                pack.remove(row.name);
            }
        }

        boolean dealStep() {
            Bargain deal = committing();
            if (deal == null) {
                return false;
            }
            if (!record) {
                record = true;
                toApply = new ArrayList<>(deal.rows);
            } else if (!toApply.isEmpty()) {
                apply(toApply.remove(0));
            } else {
                record = false;
                deals.values().remove(deal);
                time++;
            }
            return true;
        }

        boolean repackStep() {
            if (written == null) {
                return false;
            }
            List<String> behind = new ArrayList<>();
            for (String text : names) {
                if ((reached == null || text.compareTo(reached) > 0) && stored(names.indexOf(text)) != 0) {
                    behind.add(text);
                }
            }
            if (!behind.isEmpty()) {
                reached = Collections.min(behind);
                written.put(names.indexOf(reached), stored(names.indexOf(reached)));
                return true;
            }
            TreeMap<Integer, Integer> fresh = new TreeMap<>();
            for (int name : written.keySet()) {
                if (stored(name) != 0) {
                    fresh.put(name, written.get(name));
                }
            }
            pack = fresh;
            for (int name : pack.keySet()) {
                if (pack.get(name).equals(loose.get(name))) {
                    loose.remove(name);
                }
            }
            written = null;
            return true;
        }

        int steps(int kind, int n) {
            for (int i = 0; i < n; i++) {
                if (!(kind == 0 ? dealStep() : repackStep())) {
                    return i;
                }
            }
            return n;
        }

        int crash() {
            int went = deals.size();
            while (record) {
                dealStep();
            }
            deals.clear();
            written = null;
            return went;
        }

        boolean locking(Bargain deal) {
            return !deal.phase.equals("OPEN");
        }

        boolean askedFor(int kind, Row row, int stored) {
            if (kind == 0) {
                return row.old == -1 || row.old == stored;
            }
            if (kind == 1) {
                return true;
            }
            if (kind == 2) {
                return askedFor(0, row, stored) && (row.fresh == 0 || row.fresh > stored);
            }
            return askedFor(1, row, stored) && row.fresh != 0;
        }

        boolean there(Bargain deal, int name, boolean alone) {
            if (deal.rowFor(name) != null) {
                return deal.rowFor(name).fresh != 0;
            }
            boolean there = stored(name) != 0;
            for (Bargain other : deals.values()) {
                Row row = other.rowFor(name);
                if (!alone && other != deal && locking(other) && row != null && row.fresh != 0) {
                    there = true;
                }
            }
            return there;
        }

        int wrong(Bargain deal, boolean alone) {
            for (Row row : deal.rows) {
                int ten = 10 * deal.rows.indexOf(row);
                for (Bargain other : deals.values()) {
                    if (!alone && other != deal && locking(other) && other.rowFor(row.name) != null) {
                        return ten + 1;
                    }
                }
                if (!askedFor(deal.kind, row, stored(row.name))) {
                    return ten + 2;
                }
                for (int name = 0; row.fresh != 0 && name < names.size(); name++) {
                    if ((folder(name, row.name) || folder(row.name, name)) && there(deal, name, alone)) {
                        return ten + 3;
                    }
                }
            }
            return 0;
        }

        List<Integer> inOrder() {
            List<String> sorted = new ArrayList<>(names);
            Collections.sort(sorted);
            List<Integer> numbers = new ArrayList<>();
            for (String text : sorted) {
                numbers.add(names.indexOf(text));
            }
            return numbers;
        }

        boolean isSet(int set) {
            for (int d = 0; d < 32; d++) {
                boolean in = (set & (1 << d)) != 0;
                if (in && (!deals.containsKey(d) || deals.get(d).phase.equals("COMMITTING"))) {
                    return false;
                }
            }
            return true;
        }
    }

    /** One of the orders of a set: the digits, and what is stored then. */
    private static final class Order {
        final int digits;
        final World then;

        Order(int digits, World then) {
            this.digits = digits;
            this.then = then;
        }
    }

    private static void permute(List<Integer> taken, List<Integer> left, List<List<Integer>> all) {
        if (left.isEmpty()) {
            all.add(taken);
        }
        for (Integer next : left) {
            List<Integer> more = new ArrayList<>(taken);
            more.add(next);
            List<Integer> fewer = new ArrayList<>(left);
            fewer.remove(next);
            permute(more, fewer, all);
        }
    }

    private List<Order> ordersOf(int set) {
        List<Integer> members = new ArrayList<>();
        for (int d = 0; d < 4; d++) {
            if ((set & (1 << d)) != 0) {
                members.add(d);
            }
        }
        List<List<Integer>> all = new ArrayList<>();
        permute(new ArrayList<>(), members, all);
        List<Order> can = new ArrayList<>();
        for (List<Integer> order : all) {
            World then = world.copy();
            for (int name = 0; name < world.names.size(); name++) {
                then.loose.remove(name);
                then.pack.remove(name);
                if (world.value(name) != 0) {
                    then.loose.put(name, world.value(name));
                }
            }
            int digits = 0;
            boolean goes = true;
            for (int d : order) {
                Bargain deal = then.deals.get(d);
                goes = goes && then.wrong(deal, true) == 0;
                for (Row row : deal.rows) {
                    then.apply(row);
                }
                digits = digits * 10 + d + 1;
            }
            if (goes) {
                can.add(new Order(digits, then));
            }
        }
        return can;
    }

    private String text = "";
    private World world = new World();
    private World image;
    private final long[][] tapes = new long[6][];
    private final int[] sorts = new int[6];

    public int feed(int sign) {
        if (sign < 0 || sign > 127) {
            return BAD;
        }
        if (text.length() == 100) {
            return FULL;
        }
        text += (char) sign;
        return text.length();
    }

    public int name() {
        String it = text;
        text = "";
        String whole = "[a-f]{1,2}(/[a-f]{1,2}){0,2}";
        String begun = "|[a-f]{1,2}/|[a-f]{1,2}/[a-f]{1,2}/";
        for (int i = 0; i < it.length(); i++) {
            String start = it.substring(0, i + 1);
            if (!start.matches(whole) && !start.matches(begun)) {
                return -10 - i;
            }
        }
        if (!it.matches(whole)) {
            return -10 - it.length();
        }
        if (world.names.contains(it)) {
            return world.names.indexOf(it);
        }
        if (world.names.size() == 12) {
            return FULL;
        }
        world.names.add(it);
        world.journals.add(new ArrayList<>());
        return world.names.size() - 1;
    }

    public int of(int name, int what) {
        if (!world.isName(name) || what < 0 || what > 7) {
            return NONE;
        }
        int locker = -5;
        for (int d : world.deals.keySet()) {
            if (world.locking(world.deals.get(d)) && world.deals.get(d).rowFor(name) != null) {
                locker = d;
            }
        }
        return new int[] {
            world.value(name), world.stored(name), world.loose.getOrDefault(name, 0),
            world.pack.getOrDefault(name, 0), world.names.get(name).split("/").length,
            world.journals.get(name).size(), locker, world.inOrder().indexOf(name)}[what];
    }

    public int folder(int name, int other) {
        if (!world.isName(name) || !world.isName(other)) {
            return NONE;
        }
        return world.folder(name, other) ? 1 : 0;
    }

    public int list(int name, int k) {
        if (name != -1 && !world.isName(name) || k < 0) {
            return NONE;
        }
        List<Integer> listed = new ArrayList<>();
        for (int n : world.inOrder()) {
            if (world.value(n) != 0 && (name == -1 || world.folder(name, n))) {
                listed.add(n);
            }
        }
        return k < listed.size() ? listed.get(k) : -5;
    }

    public int journal(int name, int k, int what) {
        if (!world.isName(name) || k < 0 || k >= world.journals.get(name).size() || what < 0 || what > 2) {
            return NONE;
        }
        return world.journals.get(name).get(k)[what];
    }

    public int at(int name, int time) {
        if (!world.isName(name)) {
            return NONE;
        }
        if (time < 0) {
            return BAD;
        }
        List<int[]> journal = world.journals.get(name);
        if (journal.isEmpty()) {
            return world.stored(name);
        }
        int was = journal.get(0)[1];
        for (int[] entry : journal) {
            if (entry[0] <= time) {
                was = entry[2];
            }
        }
        return was;
    }

    public int expire(int time) {
        int gone = 0;
        for (List<int[]> journal : world.journals) {
            int before = journal.size();
            journal.removeIf(entry -> entry[0] < time);
            gone += before - journal.size();
        }
        return gone;
    }

    public int deal(int kind) {
        if (kind < 0 || kind > 3) {
            return NONE;
        }
        for (int d = 0; d < 4; d++) {
            if (!world.deals.containsKey(d)) {
                world.deals.put(d, new Bargain(kind));
                return d;
            }
        }
        return FULL;
    }

    public int put(int deal, int name, int old, int fresh) {
        if (!world.deals.containsKey(deal) || !world.isName(name)) {
            return NONE;
        }
        if (old < -1 || old > 999 || fresh < 0 || fresh > 999) {
            return BAD;
        }
        Bargain it = world.deals.get(deal);
        if (!it.phase.equals("OPEN") || it.rowFor(name) != null) {
            return STATE;
        }
        if (it.rows.size() == 4) {
            return FULL;
        }
        it.rows.add(new Row(name, old, fresh));
        return it.rows.size();
    }

    public int prepare(int deal) {
        if (!world.deals.containsKey(deal)) {
            return NONE;
        }
        Bargain it = world.deals.get(deal);
        if (!it.phase.equals("OPEN")) {
            return STATE;
        }
        int wrong = world.wrong(it, false);
        if (wrong > 0) {
            return -10 - wrong;
        }
        it.phase = "PREPARED";
        return 0;
    }

    public int commit(int deal) {
        if (!world.deals.containsKey(deal)) {
            return NONE;
        }
        Bargain it = world.deals.get(deal);
        if (!it.phase.equals("PREPARED") || world.committing() != null) {
            return STATE;
        }
        it.phase = "COMMITTING";
        return it.rows.size() + 2;
    }

    public int abandon(int deal) {
        if (!world.deals.containsKey(deal)) {
            return NONE;
        }
        if (world.deals.get(deal).phase.equals("COMMITTING")) {
            return STATE;
        }
        return world.deals.remove(deal).rows.size();
    }

    public int repack() {
        if (world.written != null) {
            return STATE;
        }
        world.written = new TreeMap<>();
        world.reached = null;
        int stored = 0;
        for (int n = 0; n < world.names.size(); n++) {
            stored += world.stored(n) != 0 ? 1 : 0;
        }
        return stored;
    }

    public int step(int kind, int n) {
        if (kind < 0 || kind > 1) {
            return NONE;
        }
        return n < 0 || n > 20 ? BAD : world.steps(kind, n);
    }

    public int crash() {
        return world.crash();
    }

    public int told(int deal, int what) {
        if (!world.deals.containsKey(deal) || what < 0 || what > 3) {
            return NONE;
        }
        Bargain it = world.deals.get(deal);
        int phase = Arrays.asList("OPEN", "PREPARED", "COMMITTING").indexOf(it.phase);
        return new int[] {it.kind, it.rows.size(), phase, phase == 0 ? world.wrong(it, false) : 0}[what];
    }

    public int state(int what) {
        if (what < 0 || what > 6) {
            return NONE;
        }
        int left = 0;
        if (world.committing() != null) {
            left = world.record ? world.toApply.size() + 1 : world.committing().rows.size() + 2;
        }
        int there = 0;
        for (int d : world.deals.keySet()) {
            there += 1 << d;
        }
        int most = 0;
        for (int set = 0; set < 16; set++) {
            boolean more = Integer.bitCount(set) > Integer.bitCount(most);
            if (more && world.isSet(set) && !ordersOf(set).isEmpty()) {
                most = set;
            }
        }
        return new int[] {
            world.time, world.record ? 1 : 0, left, world.written != null ? 1 : 0,
            world.written != null ? world.written.size() : 0, there, most}[what];
    }

    public int after(int kind, int n, int name) {
        if (kind < 0 || kind > 1 || !world.isName(name)) {
            return NONE;
        }
        if (n < 0 || n > 9) {
            return BAD;
        }
        World then = world.copy();
        then.steps(kind, n);
        then.crash();
        return then.value(name);
    }

    public int orders(int set) {
        return world.isSet(set) ? ordersOf(set).size() : NONE;
    }

    public int could(int set, int name, int v) {
        if (!world.isSet(set) || !world.isName(name)) {
            return NONE;
        }
        if (v < 0 || v > 999) {
            return BAD;
        }
        int hits = 0;
        for (Order order : ordersOf(set)) {
            hits += order.then.stored(name) == v ? 1 : 0;
        }
        return hits;
    }

    private int tell(List<int[]> rows, int most, int name, int v) {
        if (name == -1) {
            rows.clear();
            return 0;
        }
        if (!world.isName(name)) {
            return NONE;
        }
        if (v < 0 || v > 999) {
            return BAD;
        }
        if (rows.size() == most) {
            return FULL;
        }
        rows.add(new int[] {name, v});
        return rows.size();
    }

    public int see(int name, int v) {
        return tell(world.seen, 5, name, v);
    }

    public int fits(int set, int what) {
        if (!world.isSet(set) || what < 0 || what > 1) {
            return NONE;
        }
        List<Integer> fitting = new ArrayList<>();
        for (Order order : ordersOf(set)) {
            boolean so = true;
            for (int[] row : world.seen) {
                so = so && order.then.stored(row[0]) == row[1];
            }
            if (so) {
                fitting.add(order.digits);
            }
        }
        if (what == 0) {
            return fitting.size();
        }
        return fitting.isEmpty() ? -5 : Collections.min(fitting);
    }

    private static long fraction(long above, long below, int part) {
        if (below == 0 || part < 0 || part > 1) {
            return NO;
        }
        long common = java.math.BigInteger.valueOf(above).gcd(java.math.BigInteger.valueOf(below)).longValue();
        return (part == 0 ? above : below) / common;
    }

    public long odds(int set, int name, int v, int part) {
        int hits = could(set, name, v);
        return hits < 0 ? NO : fraction(hits, orders(set), part);
    }

    public long mean(int part) {
        long entries = 0;
        for (List<int[]> journal : world.journals) {
            entries += journal.size();
        }
        return fraction(entries, world.names.size(), part);
    }

    public int plan(int what, int n) {
        if (what == -1) {
            world.plan.clear();
            return 0;
        }
        if (what < 0 || what > 3 || what == 3 && !world.isName(n)) {
            return NONE;
        }
        if (world.plan.size() == 10) {
            return FULL;
        }
        world.plan.add(new int[] {what, n});
        return world.plan.size();
    }

    public int ends(int name) {
        if (!world.isName(name)) {
            return NONE;
        }
        World then = world.copy();
        for (int[] row : world.plan) {
            if (row[0] < 2) {
                then.steps(row[0], 1);
            } else if (row[0] == 2) {
                then.crash();
            } else {
                then.loose.remove(row[1]);
            }
        }
        return then.value(name);
    }

    public int book(int name, int v) {
        return tell(world.book, 8, name, v);
    }

    public int looked() {
        for (int[] row : world.book) {
            if (world.value(row[0]) != row[1]) {
                return world.book.indexOf(row);
            }
        }
        return -5;
    }

    private boolean isTape(int tape) {
        return 0 <= tape && tape < 6;
    }

    public int judge(int tape, int i) {
        if (!isTape(tape)) {
            return NONE;
        }
        if (tapes[tape] != null && sorts[tape] != 2) {
            return -12;
        }
        if (world.names.isEmpty()) {
            return -5;
        }
        if (i < 0 || tapes[tape] == null) {
            return 100;
        }
        for (int n = 0; n < world.names.size(); n++) {
            if ((long) i + n >= tapes[tape].length) {
                return 100 + n;
            }
            if (tapes[tape][i + n] != world.value(n)) {
                return n;
            }
        }
        return -5;
    }

    public int image() {
        image = world.copy();
        return world.names.size();
    }

    public int undo() {
        if (image == null) {
            return STATE;
        }
        world = image.copy();
        return world.names.size();
    }

    public int taken(int deal, int k) {
        if (k < 0 || k > 3) {
            return BAD;
        }
        if (!world.deals.containsKey(deal)) {
            return -11;
        }
        int kind = world.deals.get(deal).kind;
        int[][] among = {{0}, {0, 1}, {0, 2}, {0, 1, 3}};
        for (int above : among[kind]) {
            if (above == k) {
                return kind;
            }
        }
        return -12;
    }

    public int count(int what) {
        if (what < 0 || what > 5) {
            return BAD;
        }
        return new int[] {
            world.names.size(), world.deals.size(), world.seen.size(), world.plan.size(), world.book.size(),
            text.length()}[what];
    }

    public int tape(int tape, int sort, int n) {
        if (!isTape(tape)) {
            return NONE;
        }
        if (sort < -1 || sort > 4 || sort >= 0 && n > 60) {
            return BAD;
        }
        if (sort >= 0 && n < 0) {
            return -14;
        }
        tapes[tape] = sort < 0 ? null : new long[n];
        sorts[tape] = sort;
        return 1;
    }

    public int item(int tape, int i, long v) {
        if (!isTape(tape)) {
            return NONE;
        }
        if (tapes[tape] == null) {
            return -11;
        }
        if (i < 0 || i >= tapes[tape].length) {
            return -13;
        }
        int[] bits = {8, 16, 32, 64};
        if (sorts[tape] == 4) {
            tapes[tape][i] = v == 0 ? 0 : 1;
        } else {
            int above = 64 - bits[sorts[tape]];
            tapes[tape][i] = v << above >> above;
        }
        return 1;
    }

    public long read(int tape, int i) {
        if (!isTape(tape) || tapes[tape] == null || i < 0 || i >= tapes[tape].length) {
            return NO;
        }
        return tapes[tape][i];
    }

    public int shift(int tape, int i, int other, int j, int n) {
        if (!isTape(tape) || !isTape(other)) {
            return NONE;
        }
        if (tapes[tape] == null || tapes[other] == null) {
            return -11;
        }
        if (sorts[tape] != sorts[other]) {
            return -12;
        }
        boolean inside = n >= 0 && i >= 0 && j >= 0
            && (long) i + n <= tapes[tape].length && (long) j + n <= tapes[other].length;
        if (!inside) {
            return -13;
        }
        long[] before = tapes[tape].clone();
        for (int at = 0; at < n; at++) {
            tapes[other][j + at] = before[i + at];
        }
        return n;
    }
}
