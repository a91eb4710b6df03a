/** Promises 21 and 22: bring, brings. */
public final class BringingTest {
    private static final Check CHECK = new Check("BringingTest");
    private static final int IN = 0, OUT = 1;

    public static void main(String[] args) {
        leastTogether();
        asManyAsCanBe();
        lowestBoxes();
        lowestAmongEqualPlans();
        afterGreaterPlans();
        unitsByPorts();
        whatIsOver();
        whatLacks();
        manyUnits();
        bringRefused();
        CHECK.finish();
    }

    /** A pool with boxes of kind 1 at these ports. */
    private static BoxPool poolAt(int... ports) {
        BoxPool pool = new BoxPool();
        for (int box = 0; box < ports.length; box++) {
            pool.box(1, -1, 100);
            pool.report(box, 0, IN, ports[box]);
        }
        return pool;
    }

    private static String planOf(BoxPool pool, int units) {
        StringBuilder all = new StringBuilder();
        all.append(pool.bring(1)).append(':');
        for (int unit = 0; unit < units; unit++) {
            all.append(' ').append(pool.brings(1, unit));
        }
        return all.toString();
    }

    private static void leastTogether() {
        BoxPool pool = poolAt(0, 1);
        pool.cost(0, 3, 10);
        pool.cost(0, 4, 20);
        pool.cost(1, 3, 15);
        pool.cost(1, 4, 90);
        pool.book(3, 1, 1);
        CHECK.same("one unit", "10: 0 -1", planOf(pool, 2));
        pool.book(4, 1, 1);
        CHECK.same("two units: not the cheapest for each", "35: 1 0 -1", planOf(pool, 3));
        pool.cost(1, 4, 5);
        CHECK.same("the cost changed", "15: 0 1", planOf(pool, 2));
        pool.cost(3, 0, 0);
        CHECK.same("the way back counts nothing", "15: 0 1", planOf(pool, 2));
    }

    private static void asManyAsCanBe() {
        BoxPool pool = poolAt(0);
        pool.cost(0, 2, 9999);
        pool.cost(0, 3, 9998);
        pool.book(2, 1, 2);
        CHECK.same("as many as can be, though dear", "9999: 0 -1", planOf(pool, 2));
        pool.book(3, 1, 1);
        CHECK.same("the cheaper unit has it", "9998: -1 -1 0 -1", planOf(pool, 4));
        BoxPool none = poolAt();
        none.book(2, 1, 3);
        CHECK.same("none over", "0: -1 -1 -1 -1", planOf(none, 4));
    }

    private static void lowestBoxes() {
        BoxPool pool = poolAt(0, 1, 0, 1, 0, 5, 5, 5);
        pool.book(3, 1, 3);
        pool.book(4, 1, 2);
        CHECK.same("all at one cost: by rising numbers", "500: 0 1 2 3 4", planOf(pool, 5));
        pool.cost(5, 3, 50);
        CHECK.same("cheap ones for port 3", "350: 5 6 7 0 1", planOf(pool, 5));
        pool.cost(5, 4, 40);
        // Port 4 saves 60 with each of the three, port 3 saves 50: two go to 4, and the last unit of 3 has one.
        CHECK.same("cheap ones where they save most", "330: 0 1 5 6 7", planOf(pool, 5));
    }

    private static void lowestAmongEqualPlans() {
        BoxPool pool = poolAt(0, 1);
        pool.cost(0, 3, 30);
        pool.cost(0, 4, 20);
        pool.cost(1, 3, 20);
        pool.cost(1, 4, 10);
        pool.book(3, 1, 1);
        pool.book(4, 1, 1);
        CHECK.same("both ways cost 40: the first unit has the lowest", "40: 0 1", planOf(pool, 2));
        BoxPool short1 = poolAt(0);
        short1.book(3, 1, 1);
        short1.book(4, 1, 1);
        CHECK.same("one box for two at one cost: the first unit has it", "100: 0 -1", planOf(short1, 2));
        BoxPool short2 = poolAt(0, 0);
        short2.book(2, 1, 1);
        short2.book(3, 1, 1);
        short2.book(4, 1, 1);
        short2.cost(0, 3, 99);
        CHECK.same("the middle one is cheapest, then the first", "199: 0 1 -1", planOf(short2, 3));
    }

    private static void afterGreaterPlans() {
        BoxPool pool = poolAt(0, 1, 1);
        pool.cost(0, 3, 50);
        pool.cost(1, 3, 20);
        pool.book(3, 1, 1);
        pool.book(4, 1, 2);
        CHECK.same("three units", "220: 1 0 2", planOf(pool, 3));
        pool.end(1);
        CHECK.same("one unit then", "20: 1 -1 -1", planOf(pool, 3));
    }

    private static void unitsByPorts() {
        BoxPool pool = poolAt(0, 0, 0);
        pool.cost(0, 5, 1);
        pool.cost(0, 2, 2);
        pool.cost(0, 1, 3);
        pool.book(5, 1, 1);
        pool.book(1, 1, 1);
        CHECK.same("by ports, not by bookings", "4: 0 1", planOf(pool, 2));
        pool.book(2, 1, 2);
        CHECK.same("the dearest, the first, goes without", "5: -1 0 1 2", planOf(pool, 4));
        pool.book(1, 1, 1);
        CHECK.same("two bookings of one port", "5: -1 -1 0 1 2", planOf(pool, 5));
    }

    private static void whatIsOver() {
        BoxPool pool = poolAt(0, 0, 0, 0, 0, 3, 0);
        pool.box(2, -1, 100);
        pool.report(7, 0, IN, 0);
        pool.box(1, 0, 100);
        pool.report(8, 0, IN, 1);
        pool.lease(8, 0, 9);
        pool.handIn(8);
        pool.book(0, 1, 1);
        pool.serve();
        pool.book(0, 1, 1);
        pool.serve();
        pool.end(0);
        pool.damage(2, 0, 4);
        pool.wash(3, 0);
        pool.pass(1);
        pool.report(4, 1, OUT, 0);
        pool.book(3, 1, 3);
        CHECK.same("not the dirty, the given, the damaged, the uncertified, the one off, there, of a kind above, GONE",
            "100: 6 -1 -1", planOf(pool, 3));
        pool.wash(0, 1);
        CHECK.same("a washed one", "200: 0 6 -1", planOf(pool, 3));
        pool.mend(2);
        CHECK.same("a mended one", "300: 0 2 6", planOf(pool, 3));
        pool.wash(3, 1);
        CHECK.same("a certified one", "300: 0 2 3", planOf(pool, 3));
        pool.book(0, 0, 1);
        CHECK.same("what lacks of another kind there is no matter", "300: 0 2 3", planOf(pool, 3));
        pool.book(0, 1, 1);
        CHECK.same("nothing is over where it lacks", "0: -1 -1 -1 -1", planOf(pool, 4));
    }

    private static void whatLacks() {
        BoxPool pool = poolAt(0, 3);
        pool.book(3, 1, 2);
        CHECK.same("not served yet: both lack", "100: 0 -1", planOf(pool, 2));
        pool.serve();
        CHECK.same("one served", "100: 0 -1", planOf(pool, 2));
        CHECK.same("no more units", -1, pool.brings(1, 1));
        CHECK.same("of kind 0 nothing lacks", 0, pool.bring(0));
        CHECK.same("nor brings", -1, pool.brings(0, 0));
        CHECK.same("of kind 2 nothing lacks", 0, pool.bring(2));
        pool.end(0);
        CHECK.same("over", "0: -1", planOf(pool, 1));
    }

    private static void manyUnits() {
        int[] ports = new int[40];
        for (int box = 0; box < ports.length; box++) {
            ports[box] = box % 5;
        }
        BoxPool pool = poolAt(ports);
        for (int from = 0; from < 5; from++) {
            pool.cost(from, 5, 1000 - from);
        }
        pool.book(5, 1, 5);
        CHECK.same("five units of forty boxes", "4980: 4 9 14 19 24", planOf(pool, 5));
        CHECK.same("unit 5", -1, pool.brings(1, 5));
        CHECK.same("the greatest unit", -1, pool.brings(1, Integer.MAX_VALUE));
    }

    private static void bringRefused() {
        Check.Use ahead = p -> {
            p.box(1, -1, 9);
            p.report(0, 0, IN, 0);
            p.book(3, 1, 2);
        };
        Check.Use many = p -> {
            ahead.on(p);
            p.book(4, 1, 4);
        };
        CHECK.outOfRange("bring of kind 3", ahead, p -> p.bring(3));
        CHECK.outOfRange("bring of kind -1", ahead, p -> p.bring(-1));
        CHECK.outOfRange("bring of kind 3 with many", many, p -> p.bring(3));
        CHECK.notNow("bring of 6 units", many, p -> p.bring(1));
        CHECK.outOfRange("brings of kind 3", ahead, p -> p.brings(3, 0));
        CHECK.outOfRange("brings of kind -1 comes first", ahead, p -> p.brings(-1, -1));
        CHECK.noSuch("brings of unit -1", ahead, p -> p.brings(1, -1));
        CHECK.noSuch("brings of unit -1 with many", many, p -> p.brings(1, -1));
        CHECK.notNow("brings of 6 units", many, p -> p.brings(1, 0));
        CHECK.notNow("brings of 6 units beyond them", many, p -> p.brings(1, 99));
        BoxPool pool = new BoxPool();
        many.on(pool);
        CHECK.same("another kind", 0, pool.bring(0));
        pool.end(0);
        CHECK.same("four units then", 100, pool.bring(1));
    }
}
