/** Promises 20 to 26: what can be. */
public final class CanBeTest {
    private static void after() {
        Check.promise(20);
        NameRevisions x = Check.with("a", "b");
        Check.store(x, 0, 5);
        Check.due("after(0, 9, 0), none committing", x.after(0, 9, 0), 5);
        Check.due("after(1, 9, 0), no repack", x.after(1, 9, 0), 5);
        Check.committing(x, Check.FORCED, 0, -1, 0, 1, -1, 7);
        int[] none = {5, 0, 0, 0, 0, 0};
        int[] all = {0, 7, 7, 7, 7, 7};
        for (int n = 0; n < 6; n++) {
            Check.due("after(0, " + n + ", 0)", x.after(0, n, 0), none[n]);
            Check.due("after(0, " + n + ", 1)", x.after(0, n, 1), all[n]);
        }
        Check.due("after(1, 9, 0), the record not written", x.after(1, 9, 0), 5);
        x.step(0, 1);
        Check.due("after(1, 0, 1), the record written", x.after(1, 0, 1), 7);
        Check.due("after(0, 0, 0), the record written", x.after(0, 0, 0), 0);
        x.repack();
        Check.due("after(1, 9, 0), beside the deal", x.after(1, 9, 0), 0);
        Check.due("state(1): nothing changed", x.state(1), 1);
        Check.due("state(3): nothing changed", x.state(3), 1);
        Check.due("state(4): nothing changed", x.state(4), 0);
        Check.due("of(0, 1): nothing changed", x.of(0, 1), 5);
        Check.due("after(2, 0, 0)", x.after(2, 0, 0), Check.NONE);
        Check.due("after(-1, 0, 0)", x.after(-1, 0, 0), Check.NONE);
        Check.due("after(0, 10, 2)", x.after(0, 10, 2), Check.NONE);
        Check.due("after(0, 0, -1)", x.after(0, 0, -1), Check.NONE);
        Check.due("after(0, -1, 0)", x.after(0, -1, 0), Check.BAD);
        Check.due("after(0, 10, 0)", x.after(0, 10, 0), Check.BAD);
        Check.due("after(1, 10, 0)", x.after(1, 10, 0), Check.BAD);
    }

    private static void orders() {
        Check.promise(21);
        NameRevisions x = Check.with("a", "a/b", "c");
        Check.due("orders(0), no deals", x.orders(0), 1);
        Check.due("orders(1), no deals", x.orders(1), Check.NONE);
        Check.deal(x, Check.PLAIN, 0, 0, 1);
        Check.deal(x, Check.PLAIN, 0, 1, 0);
        Check.deal(x, Check.RISING, 1, 0, 2);
        int[] wants = {1, 1, 0, 1, 1, 0, 0, 1, -1, -1};
        for (int set = 0; set < wants.length; set++) {
            Check.due("orders(" + set + ")", x.orders(set), wants[set]);
        }
        Check.due("orders(-1)", x.orders(-1), Check.NONE);
        Check.due("orders(16)", x.orders(16), Check.NONE);
        Check.due("orders(MIN)", x.orders(Check.MIN), Check.NONE);
        Check.deal(x, Check.KEEPING, 2, -1, 1);
        Check.due("orders(15)", x.orders(15), 4);
        // Locks, and what others are about to do, don't count.
        x.prepare(0);
        Check.due("orders(4), 0 prepared", x.orders(4), 1);
        Check.due("orders(15), 0 prepared", x.orders(15), 4);
        x.commit(0);
        Check.due("orders(1), 0 committing", x.orders(1), Check.NONE);
        Check.due("orders(15), 0 committing", x.orders(15), Check.NONE);
        Check.due("orders(14), 0 committing", x.orders(14), 0);
        x.step(0, 1);
        Check.due("orders(14), by values", x.orders(14), 3);
        Check.due("orders(4), by values", x.orders(4), 0);
        Check.due("of(0, 1): nothing changed", x.of(0, 1), 0);
        NameRevisions y = Check.with("a", "b", "c", "d");
        for (int d = 0; d < 4; d++) {
            Check.deal(y, Check.FORCED, d, -1, 1);
        }
        Check.due("orders(15), all alike free", y.orders(15), 24);
        Check.due("orders(13), all alike free", y.orders(13), 6);
    }

    /** In the row of orders, all rows of a deal are looked at ahead of the first that is applied. */
    private static void ordersByWholeDeals() {
        Check.promise(21);
        NameRevisions x = Check.with("a", "a/b", "b");
        Check.store(x, 0, 1);
        Check.deal(x, Check.FORCED, 0, -1, 0, 1, -1, 1);
        Check.due("orders(1): its own row takes the folder away", x.orders(1), 1);
        Check.deal(x, Check.FORCED, 1, -1, 1);
        Check.due("orders(2): the folder is there", x.orders(2), 0);
        Check.due("orders(3): behind the other alone", x.orders(3), 1);
        Check.deal(x, Check.KEEPING, 2, -1, 0);
        Check.due("orders(4): never asked for", x.orders(4), 0);
        Check.due("orders(5): never asked for", x.orders(5), 0);
    }

    private static void could() {
        Check.promise(22);
        NameRevisions x = threeForced();
        int[] wants = {0, 2, 2, 2, 0};
        for (int v = 0; v < 5; v++) {
            Check.due("could(7, 0, " + v + ")", x.could(7, 0, v), wants[v]);
        }
        Check.due("could(0, 0, 0)", x.could(0, 0, 0), 1);
        Check.due("could(0, 0, 1)", x.could(0, 0, 1), 0);
        Check.due("could(4, 0, 3)", x.could(4, 0, 3), 1);
        Check.due("could(7, 1, 0)", x.could(7, 1, 0), 6);
        Check.due("could(7, 0, 999)", x.could(7, 0, 999), 0);
        Check.due("could(7, 0, 1000)", x.could(7, 0, 1000), Check.BAD);
        Check.due("could(7, 0, -1)", x.could(7, 0, -1), Check.BAD);
        Check.due("could(8, 0, -1)", x.could(8, 0, -1), Check.NONE);
        Check.due("could(-1, 0, 0)", x.could(-1, 0, 0), Check.NONE);
        Check.due("could(7, 2, 1000)", x.could(7, 2, 1000), Check.NONE);
        Check.due("could(7, -1, 0)", x.could(7, -1, 0), Check.NONE);
        Check.due("of(0, 0): nothing changed", x.of(0, 0), 0);
    }

    /** Deals 0 to 2, each of which makes name 0 its number and 1; name 1 is left alone. */
    private static NameRevisions threeForced() {
        NameRevisions x = Check.with("a", "b");
        for (int d = 0; d < 3; d++) {
            Check.deal(x, Check.FORCED, 0, -1, d + 1);
        }
        return x;
    }

    private static void see() {
        Check.promise(23);
        NameRevisions x = Check.with("a", "b");
        Check.due("see(0, 0)", x.see(0, 0), 1);
        Check.due("see(1, 999)", x.see(1, 999), 2);
        Check.due("see(2, 1000)", x.see(2, 1000), Check.NONE);
        Check.due("see(-2, 0)", x.see(-2, 0), Check.NONE);
        Check.due("see(0, 1000)", x.see(0, 1000), Check.BAD);
        Check.due("see(0, -1)", x.see(0, -1), Check.BAD);
        Check.due("see(0, 0), a third", x.see(0, 0), 3);
        Check.due("see(0, 0), a fourth", x.see(0, 0), 4);
        Check.due("see(0, 0), a fifth", x.see(0, 0), 5);
        Check.due("see(0, 0), a sixth", x.see(0, 0), Check.FULL);
        Check.due("see(0, 1000), a sixth", x.see(0, 1000), Check.BAD);
        Check.due("count(2)", x.count(2), 5);
        Check.due("see(-1, 1000)", x.see(-1, 1000), 0);
        Check.due("count(2), none then", x.count(2), 0);
        Check.due("see(1, 5), again", x.see(1, 5), 1);
    }

    private static void fits() {
        Check.promise(24);
        NameRevisions x = threeForced();
        dueFits(x, 7, 6, 123);
        dueFits(x, 6, 2, 23);
        dueFits(x, 4, 1, 3);
        dueFits(x, 0, 1, 0);
        x.see(0, 1);
        dueFits(x, 7, 2, 231);
        dueFits(x, 6, 0, -5);
        dueFits(x, 1, 1, 1);
        // What is seen isn't so by the order of none, which is the only one.
        dueFits(x, 0, 0, -5);
        x.see(1, 0);
        dueFits(x, 7, 2, 231);
        x.see(0, 2);
        dueFits(x, 7, 0, -5);
        x.see(-1, 0);
        x.see(1, 3);
        x.deal(Check.FORCED);
        x.put(3, 1, -1, 3);
        dueFits(x, 15, 24, 1234);
        dueFits(x, 9, 2, 14);
        x.see(0, 2);
        dueFits(x, 15, 8, 1324);
        dueFits(x, 10, 2, 24);
        Check.due("fits(16, 0)", x.fits(16, 0), Check.NONE);
        Check.due("fits(-1, 0)", x.fits(-1, 0), Check.NONE);
        Check.due("fits(15, -1)", x.fits(15, -1), Check.NONE);
        Check.due("fits(15, 2)", x.fits(15, 2), Check.NONE);
        x.prepare(3);
        x.commit(3);
        Check.due("fits(15, 0), 3 committing", x.fits(15, 0), Check.NONE);
        dueFits(x, 7, 0, -5);
        x.step(0, 1);
        dueFits(x, 7, 2, 132);
    }

    private static void dueFits(NameRevisions x, int set, int many, int first) {
        Check.due("fits(" + set + ", 0)", x.fits(set, 0), many);
        Check.due("fits(" + set + ", 1)", x.fits(set, 1), first);
    }

    private static void odds() {
        Check.promise(25);
        NameRevisions x = threeForced();
        dueOdds(x, 7, 0, 1, 1, 3);
        dueOdds(x, 7, 0, 0, 0, 1);
        dueOdds(x, 7, 1, 0, 1, 1);
        dueOdds(x, 0, 0, 0, 1, 1);
        x.deal(Check.PLAIN);
        x.put(3, 0, 1, 1);
        // 3 goes right behind 0: 6 of the 24 orders, and two of these end with both.
        dueOdds(x, 15, 0, 1, 1, 3);
        dueOdds(x, 9, 0, 1, 1, 1);
        dueOdds(x, 8, 0, 1, NameRevisions.NO, NameRevisions.NO);
        dueOdds(x, 16, 0, 1, NameRevisions.NO, NameRevisions.NO);
        dueOdds(x, -1, 0, 1, NameRevisions.NO, NameRevisions.NO);
        dueOdds(x, 7, 2, 1, NameRevisions.NO, NameRevisions.NO);
        dueOdds(x, 7, -1, 1, NameRevisions.NO, NameRevisions.NO);
        dueOdds(x, 7, 0, 1000, NameRevisions.NO, NameRevisions.NO);
        dueOdds(x, 7, 0, -1, NameRevisions.NO, NameRevisions.NO);
        Check.due("odds, part -1", x.odds(7, 0, 1, -1), NameRevisions.NO);
        Check.due("odds, part 2", x.odds(7, 0, 1, 2), NameRevisions.NO);
    }

    private static void dueOdds(NameRevisions x, int set, int name, int v, long above, long below) {
        String words = "odds(" + set + ", " + name + ", " + v + ", ";
        Check.due(words + "0)", x.odds(set, name, v, 0), above);
        Check.due(words + "1)", x.odds(set, name, v, 1), below);
    }

    private static void mean() {
        Check.promise(26);
        NameRevisions x = new NameRevisions();
        Check.due("mean(0), no names", x.mean(0), NameRevisions.NO);
        Check.due("mean(1), no names", x.mean(1), NameRevisions.NO);
        Check.name(x, "a");
        Check.name(x, "b");
        Check.name(x, "c");
        Check.name(x, "d");
        int[] above = {0, 1, 1, 3, 1, 5, 3};
        int[] below = {1, 4, 2, 4, 1, 4, 2};
        for (int n = 0; n < above.length; n++) {
            Check.due("mean(0) of " + n + " entries", x.mean(0), above[n]);
            Check.due("mean(1) of " + n + " entries", x.mean(1), below[n]);
            Check.store(x, n % 3, n + 1);
        }
        Check.due("mean(-1)", x.mean(-1), NameRevisions.NO);
        Check.due("mean(2)", x.mean(2), NameRevisions.NO);
    }

    public static void main(String[] args) {
        after();
        orders();
        ordersByWholeDeals();
        could();
        see();
        fits();
        odds();
        mean();
        Check.end();
    }
}
