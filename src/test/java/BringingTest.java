/** Promises 21 and 22: bring, brings. */
public final class BringingTest {
    private static final Check CHECK = new Check("BringingTest");
    private static final int IN = 0, OUT = 1;

    public static void main(String[] args) {
        leastTogether();
        asManyAsCanBe();
        lowestBoxes();
        lowestAmongEqualPlans();
        afterGreaterPlans();
        unitsByPorts();
        whatIsOver();
        whatLacks();
        whereNothingLacksAnyMore();
        fewerBoxesThanUnits();
        noneAboveAll();
        dearestPlan();
        freePlans();
        fiveUnits();
        lastBoxes();
        manyUnits();
        bringRefused();
        CHECK.finish();
    }

    /** A pool with boxes of kind 1 at these ports. */
    private static BoxPool poolAt(int... ports) {
        BoxPool pool = new BoxPool();
        for (int box = 0; box < ports.length; box++) {
            pool.box(1, -1, 100);
            pool.report(box, 0, IN, ports[box]);
        }
        return pool;
    }

    private static String planOf(BoxPool pool, int units) {
        StringBuilder all = new StringBuilder();
        all.append(pool.bring(1)).append(':');
        for (int unit = 0; unit < units; unit++) {
            all.append(' ').append(pool.brings(1, unit));
        }
        return all.toString();
    }

    private static void leastTogether() {
        BoxPool pool = poolAt(0, 1);
        pool.cost(0, 3, 10);
        pool.cost(0, 4, 20);
        pool.cost(1, 3, 15);
        pool.cost(1, 4, 90);
        pool.book(3, 1, 1);
        CHECK.same("one unit", "10: 0 -1", planOf(pool, 2));
        pool.book(4, 1, 1);
        CHECK.same("two units: not the cheapest for each", "35: 1 0 -1", planOf(pool, 3));
        pool.cost(1, 4, 5);
        CHECK.same("the cost changed", "15: 0 1", planOf(pool, 2));
        pool.cost(3, 0, 0);
        CHECK.same("the way back counts nothing", "15: 0 1", planOf(pool, 2));
    }

    private static void asManyAsCanBe() {
        BoxPool pool = poolAt(0);
        pool.cost(0, 2, 9999);
        pool.cost(0, 3, 9998);
        pool.book(2, 1, 2);
        CHECK.same("as many as can be, though dear", "9999: 0 -1", planOf(pool, 2));
        pool.book(3, 1, 1);
        CHECK.same("the cheaper unit has it", "9998: -1 -1 0 -1", planOf(pool, 4));
        BoxPool none = poolAt();
        none.book(2, 1, 3);
        CHECK.same("none over", "0: -1 -1 -1 -1", planOf(none, 4));
    }

    private static void lowestBoxes() {
        BoxPool pool = poolAt(0, 1, 0, 1, 0, 5, 5, 5);
        pool.book(3, 1, 3);
        pool.book(4, 1, 2);
        CHECK.same("all at one cost: by rising numbers", "500: 0 1 2 3 4", planOf(pool, 5));
        pool.cost(5, 3, 50);
        CHECK.same("cheap ones for port 3", "350: 5 6 7 0 1", planOf(pool, 5));
        pool.cost(5, 4, 40);
        // Port 4 saves 60 with each of the three, port 3 saves 50: two go to 4, and the last unit of 3 has one.
        CHECK.same("cheap ones where they save most", "330: 0 1 5 6 7", planOf(pool, 5));
    }

    private static void lowestAmongEqualPlans() {
        BoxPool pool = poolAt(0, 1);
        pool.cost(0, 3, 30);
        pool.cost(0, 4, 20);
        pool.cost(1, 3, 20);
        pool.cost(1, 4, 10);
        pool.book(3, 1, 1);
        pool.book(4, 1, 1);
        CHECK.same("both ways cost 40: the first unit has the lowest", "40: 0 1", planOf(pool, 2));
        BoxPool short1 = poolAt(0);
        short1.book(3, 1, 1);
        short1.book(4, 1, 1);
        CHECK.same("one box for two at one cost: the first unit has it", "100: 0 -1", planOf(short1, 2));
        BoxPool short2 = poolAt(0, 0);
        short2.book(2, 1, 1);
        short2.book(3, 1, 1);
        short2.book(4, 1, 1);
        short2.cost(0, 3, 99);
        CHECK.same("the middle one is cheapest, then the first", "199: 0 1 -1", planOf(short2, 3));
    }

    private static void afterGreaterPlans() {
        BoxPool pool = poolAt(0, 1, 1);
        pool.cost(0, 3, 50);
        pool.cost(1, 3, 20);
        pool.book(3, 1, 1);
        pool.book(4, 1, 2);
        CHECK.same("three units", "220: 1 0 2", planOf(pool, 3));
        pool.end(1);
        CHECK.same("one unit then", "20: 1 -1 -1", planOf(pool, 3));
    }

    private static void unitsByPorts() {
        BoxPool pool = poolAt(0, 0, 0);
        pool.cost(0, 5, 1);
        pool.cost(0, 2, 2);
        pool.cost(0, 1, 3);
        pool.book(5, 1, 1);
        pool.book(1, 1, 1);
        CHECK.same("by ports, not by bookings", "4: 0 1", planOf(pool, 2));
        pool.book(2, 1, 2);
        CHECK.same("the dearest, the first, goes without", "5: -1 0 1 2", planOf(pool, 4));
        pool.book(1, 1, 1);
        CHECK.same("two bookings of one port", "5: -1 -1 0 1 2", planOf(pool, 5));
    }

    private static void whatIsOver() {
        BoxPool pool = poolAt(0, 0, 0, 0, 0, 3, 0);
        pool.box(2, -1, 100);
        pool.report(7, 0, IN, 0);
        pool.box(1, 0, 100);
        pool.report(8, 0, IN, 1);
        pool.lease(8, 0, 9);
        pool.handIn(8);
        pool.book(0, 1, 1);
        pool.serve();
        pool.book(0, 1, 1);
        pool.serve();
        pool.end(0);
        pool.damage(2, 0, 4);
        pool.wash(3, 0);
        pool.pass(1);
        pool.report(4, 1, OUT, 0);
        pool.book(3, 1, 3);
        CHECK.same("not the dirty, the given, the damaged, the uncertified, the one off, there, of a kind above, GONE",
            "100: 6 -1 -1", planOf(pool, 3));
        pool.wash(0, 1);
        CHECK.same("a washed one", "200: 0 6 -1", planOf(pool, 3));
        pool.mend(2);
        CHECK.same("a mended one", "300: 0 2 6", planOf(pool, 3));
        pool.wash(3, 1);
        CHECK.same("a certified one", "300: 0 2 3", planOf(pool, 3));
        pool.book(0, 0, 1);
        CHECK.same("what lacks of another kind there is no matter", "300: 0 2 3", planOf(pool, 3));
        pool.book(0, 1, 1);
        CHECK.same("nothing is over where it lacks", "0: -1 -1 -1 -1", planOf(pool, 4));
    }

    private static void whatLacks() {
        BoxPool pool = poolAt(0, 3);
        pool.book(3, 1, 2);
        CHECK.same("not served yet: both lack", "100: 0 -1", planOf(pool, 2));
        pool.serve();
        CHECK.same("one served", "100: 0 -1", planOf(pool, 2));
        CHECK.same("no more units", -1, pool.brings(1, 1));
        CHECK.same("of kind 0 nothing lacks", 0, pool.bring(0));
        CHECK.same("nor brings", -1, pool.brings(0, 0));
        CHECK.same("of kind 2 nothing lacks", 0, pool.bring(2));
        pool.end(0);
        CHECK.same("over", "0: -1", planOf(pool, 1));
    }

    /** "At ports where nothing of it lacks": where it was served, or over, boxes are over again. */
    private static void whereNothingLacksAnyMore() {
        BoxPool pool = poolAt(0, 0, 0);
        pool.book(0, 1, 2);
        pool.book(3, 1, 1);
        CHECK.same("it lacks there: nothing is over", "0: -1 -1 -1 -1", planOf(pool, 4));
        pool.serve();
        CHECK.same("it was served: what is left is over", "100: 2 -1", planOf(pool, 2));
        pool.book(0, 1, 1);
        CHECK.same("it lacks there again", "0: -1 -1", planOf(pool, 2));
        pool.end(2);
        CHECK.same("it is over", "100: 2 -1", planOf(pool, 2));
        pool.book(0, 0, 1);
        pool.book(0, 2, 1);
        CHECK.same("of other kinds it lacks there", "100: 2 -1", planOf(pool, 2));
        CHECK.same("of kind 0 none is over", 0, pool.bring(0));
        CHECK.same("of kind 2 none is over", -1, pool.brings(2, 0));
    }

    /** "As many as can be": each number of boxes for each number of units, all at one cost. */
    private static void fewerBoxesThanUnits() {
        for (int boxes = 0; boxes <= 6; boxes++) {
            for (int units = 0; units <= 5; units++) {
                BoxPool pool = poolAt(new int[boxes]);
                for (int unit = 0; unit < units; unit++) {
                    pool.book(1 + unit, 1, 1);
                }
                int brought = Math.min(boxes, units);
                StringBuilder due = new StringBuilder().append(100 * brought).append(':');
                for (int unit = 0; unit < 7; unit++) {
                    due.append(' ').append(unit < brought ? unit : -1);
                }
                CHECK.same(boxes + " boxes, " + units + " units", due.toString(), planOf(pool, 7));
            }
        }
    }

    /** "That in which the first unit has the lowest box, none being above all, then the next one, and so on". */
    private static void noneAboveAll() {
        BoxPool pool = poolAt(0, 1);
        pool.book(2, 1, 1);
        pool.book(3, 1, 1);
        pool.book(4, 1, 1);
        pool.cost(0, 2, 10);
        pool.cost(0, 3, 10);
        pool.cost(0, 4, 10);
        pool.cost(1, 2, 20);
        pool.cost(1, 3, 20);
        pool.cost(1, 4, 20);
        CHECK.same("six plans of 30: the first has the lowest, the last has none", "30: 0 1 -1", planOf(pool, 3));
        pool.cost(1, 3, 21);
        CHECK.same("rather none for the second than a higher one for the first", "30: 0 -1 1", planOf(pool, 3));
        pool.cost(1, 4, 21);
        CHECK.same("rather a higher one for the first than none for it", "30: 1 0 -1", planOf(pool, 3));
        pool.cost(0, 3, 11);
        CHECK.same("the second has none", "30: 1 -1 0", planOf(pool, 3));
        pool.cost(0, 4, 11);
        CHECK.same("four plans of 31", "31: 0 1 -1", planOf(pool, 3));
    }

    /** Costs go "0 to 9999": the dearest plan of all is a plan still. */
    private static void dearestPlan() {
        BoxPool pool = poolAt(0, 0, 0, 0, 0);
        for (int to = 1; to < 6; to++) {
            pool.cost(0, to, 9999);
            pool.book(to, 1, 1);
        }
        CHECK.same("five units at 9999", "49995: 0 1 2 3 4", planOf(pool, 5));
        pool.cost(0, 1, 9998);
        CHECK.same("one of them at 9998", "49994: 0 1 2 3 4", planOf(pool, 5));
    }

    /** Costs go "0 to 9999": what costs nothing is brought all the same, as many as can be. */
    private static void freePlans() {
        BoxPool pool = poolAt(0, 1, 0);
        for (int to = 2; to < 6; to++) {
            pool.cost(0, to, 0);
            pool.cost(1, to, 0);
            pool.book(to, 1, 1);
        }
        CHECK.same("three boxes for four units, all for nothing", "0: 0 1 2 -1", planOf(pool, 4));
        pool.cost(0, 2, 1);
        CHECK.same("box 1 for the first unit", "0: 1 0 2 -1", planOf(pool, 4));
        pool.cost(1, 2, 1);
        CHECK.same("the first unit goes without", "0: -1 0 1 2", planOf(pool, 4));
        pool.end(3);
        CHECK.same("as many as can be, though it costs", "1: 0 1 2 -1", planOf(pool, 4));
    }

    /** "At most 5 units may lack for that", of one booking or of five, and of that kind alone. */
    private static void fiveUnits() {
        for (int kind = 0; kind < 3; kind++) {
            BoxPool pool = new BoxPool();
            for (int box = 0; box < 4; box++) {
                pool.box(kind, -1, 100);
                pool.report(box, 0, IN, 5);
            }
            pool.book(5, kind, 9);
            pool.book(0, (kind + 1) % 3, 9);
            int asked = kind;
            CHECK.thrown("nine units", IllegalStateException.class, pool, p -> p.bring(asked));
            CHECK.thrown("nine units of the other", IllegalStateException.class, pool, p -> p.bring((asked + 1) % 3));
            CHECK.same("none of the third", 0, pool.bring((kind + 2) % 3));
            CHECK.same("four are given", 4, pool.serve());
            CHECK.same("five lack then", 0, pool.bring(kind));
            CHECK.same("for none of them", -1, pool.brings(kind, 4));
            pool.book(1, kind, 1);
            CHECK.thrown("six at two ports", IllegalStateException.class, pool, p -> p.brings(asked, 0));
            pool.end(2);
            CHECK.same("five again", 0, pool.bring(kind));
        }
    }

    /** Boxes up to number 39 are over, and the lowest ones of each port go first. */
    private static void lastBoxes() {
        int[] ports = new int[40];
        ports[38] = 1;
        ports[39] = 1;
        BoxPool pool = poolAt(ports);
        pool.book(2, 1, 3);
        pool.cost(1, 2, 99);
        CHECK.same("38 and 39 are cheaper by one", "298: 0 38 39", planOf(pool, 3));
        pool.cost(0, 2, 98);
        CHECK.same("0 to 2 are", "294: 0 1 2", planOf(pool, 3));
    }

    private static void manyUnits() {
        int[] ports = new int[40];
        for (int box = 0; box < ports.length; box++) {
            ports[box] = box % 5;
        }
        BoxPool pool = poolAt(ports);
        for (int from = 0; from < 5; from++) {
            pool.cost(from, 5, 1000 - from);
        }
        pool.book(5, 1, 5);
        CHECK.same("five units of forty boxes", "4980: 4 9 14 19 24", planOf(pool, 5));
        CHECK.same("unit 5", -1, pool.brings(1, 5));
        CHECK.same("the greatest unit", -1, pool.brings(1, Integer.MAX_VALUE));
    }

    private static void bringRefused() {
        Check.Use ahead = p -> {
            p.box(1, -1, 9);
            p.report(0, 0, IN, 0);
            p.book(3, 1, 2);
        };
        Check.Use many = p -> {
            ahead.on(p);
            p.book(4, 1, 4);
        };
        CHECK.outOfRange("bring of kind 3", ahead, p -> p.bring(3));
        CHECK.outOfRange("bring of kind -1", ahead, p -> p.bring(-1));
        CHECK.outOfRange("bring of kind 3 with many", many, p -> p.bring(3));
        CHECK.notNow("bring of 6 units", many, p -> p.bring(1));
        CHECK.outOfRange("brings of kind 3", ahead, p -> p.brings(3, 0));
        CHECK.outOfRange("brings of kind -1 comes first", ahead, p -> p.brings(-1, -1));
        CHECK.noSuch("brings of unit -1", ahead, p -> p.brings(1, -1));
        CHECK.noSuch("brings of unit -1 with many", many, p -> p.brings(1, -1));
        CHECK.notNow("brings of 6 units", many, p -> p.brings(1, 0));
        CHECK.notNow("brings of 6 units beyond them", many, p -> p.brings(1, 99));
        BoxPool pool = new BoxPool();
        many.on(pool);
        CHECK.same("another kind", 0, pool.bring(0));
        pool.end(0);
        CHECK.same("four units then", 100, pool.bring(1));
    }
}
