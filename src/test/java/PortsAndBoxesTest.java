/** Promises 1 to 4 and 25: a new object, cost, box, wash, pass. */
public final class PortsAndBoxesTest {
    private static final Check CHECK = new Check("PortsAndBoxesTest");

    public static void main(String[] args) {
        newObject();
        newObjectBesideAnother();
        costs();
        costsRefused();
        boxes();
        boxesRefused();
        fortyBoxes();
        washes();
        washesRefused();
        passes();
        passesRefused();
        CHECK.finish();
    }

    private static void newObject() {
        BoxPool pool = new BoxPool();
        CHECK.thrown("no boxes", IndexOutOfBoundsException.class, pool, p -> p.boxIs(0, 0));
        CHECK.thrown("no bookings", IndexOutOfBoundsException.class, pool, p -> p.lacks(0));
        for (int port = 0; port < 6; port++) {
            CHECK.same("new count", 0, pool.count(port, -1, 0));
        }
        for (int kind = 0; kind < 3; kind++) {
            CHECK.same("new bring", 0, pool.bring(kind));
            CHECK.same("new brings", -1, pool.brings(kind, 0));
        }
        CHECK.same("new serve", 0, pool.serve());
        CHECK.same("new free", 5, pool.free(5));
        CHECK.same("new limit", 500, pool.limit(500));
        for (int code = 0; code < 5; code++) {
            CHECK.same("new standard", 3, pool.standard(code, 3));
        }
        for (int lessor = 0; lessor < 3; lessor++) {
            for (int port = 0; port < 6; port++) {
                CHECK.same("new quota", 2, pool.quota(lessor, port, 2));
            }
        }
        CHECK.same("first box", 0, pool.box(0, -1, 0));
        CHECK.same("first booking", 0, pool.book(0, 0, 1));
        CHECK.same("first day is 0", 1, pool.pass(1));
    }

    /** "No boxes and bookings", nor anything else that was told of another object. */
    private static void newObjectBesideAnother() {
        for (Probe probe : Probe.values()) {
            String first = probe.of(new BoxPool());
            BoxPool used = new BoxPool();
            used.box(0, 0, 50);
            used.report(0, 0, BoxPool.IN, 1);
            used.lease(0, 0, 9);
            used.damage(0, 0, 9);
            used.book(1, 1, 1);
            used.cost(0, 1, 7);
            used.quota(0, 1, 7);
            used.standard(0, 7);
            used.limit(7);
            used.free(7);
            used.handIn(0);
            used.pass(7);
            CHECK.same("a new one, asked " + probe, first, probe.of(new BoxPool()));
        }
        newObject();
    }

    private static void costs() {
        BoxPool pool = new BoxPool();
        for (int from = 0; from < 6; from++) {
            for (int to = 0; to < 6; to++) {
                if (from != to) {
                    CHECK.same("cost at first", 100, pool.cost(from, to, 10 * from + to));
                }
            }
        }
        CHECK.same("cost of one way", 12, pool.cost(1, 2, 9999));
        CHECK.same("cost of the other way", 21, pool.cost(2, 1, 0));
        CHECK.same("the greatest cost", 9999, pool.cost(1, 2, 5));
        CHECK.same("the least cost", 0, pool.cost(2, 1, 5));
    }

    private static void costsRefused() {
        Check.Use ahead = p -> p.cost(0, 1, 7);
        CHECK.noSuch("cost from 6", ahead, p -> p.cost(6, 0, 1));
        CHECK.noSuch("cost from -1", ahead, p -> p.cost(-1, 0, 1));
        CHECK.noSuch("cost to 6", ahead, p -> p.cost(0, 6, 1));
        CHECK.noSuch("cost to -1", ahead, p -> p.cost(0, -1, 1));
        CHECK.noSuch("cost of no port comes ahead of the same", ahead, p -> p.cost(6, 6, 1));
        CHECK.noSuch("cost of no port comes ahead of range", ahead, p -> p.cost(0, Integer.MIN_VALUE, -1));
        CHECK.noSuch("cost of no port -1 comes ahead of the same", ahead, p -> p.cost(-1, -1, 1));
        CHECK.outOfRange("cost to the same", ahead, p -> p.cost(3, 3, 0));
        CHECK.outOfRange("cost from port 0 to the same", ahead, p -> p.cost(0, 0, 9999));
        CHECK.outOfRange("cost from port 5 to the same, out of range too", ahead, p -> p.cost(5, 5, 10000));
        CHECK.outOfRange("cost -1", ahead, p -> p.cost(0, 1, -1));
        CHECK.outOfRange("cost 10000", ahead, p -> p.cost(0, 1, 10000));
    }

    private static void boxes() {
        BoxPool pool = new BoxPool();
        for (int number = 0; number < 40; number++) {
            CHECK.same("box number", number, pool.box(number % 3, number % 4 - 1, number % 2 * 9999));
        }
        for (int number = 0; number < 40; number++) {
            CHECK.same("kind", number % 3, pool.boxIs(number, 0));
            CHECK.same("lessor", number % 4 - 1, pool.boxIs(number, 1));
        }
        CHECK.same("not GONE", 0, pool.boxIs(39, 2));
        CHECK.same("clean", 0, pool.boxIs(39, 3));
        CHECK.same("no booking", -1, pool.boxIs(39, 4));
        CHECK.same("no damages", 0, pool.boxIs(39, 5));
        CHECK.same("no doubts", 0, pool.boxIs(39, 6));
        CHECK.same("no lease", 0, pool.boxIs(39, 7));
        CHECK.same("nowhere", 10, pool.place(39, 0));
        CHECK.same("certified at the end of it", 1, servedOn(5, 5));
        CHECK.same("certified no more", 0, servedOn(5, 6));
    }

    /** How many boxes are given on a day by one with such a certificate. */
    private static int servedOn(int until, int day) {
        BoxPool pool = new BoxPool();
        pool.box(0, -1, until);
        pool.report(0, 0, 0, 0);
        pool.book(0, 0, 1);
        pool.pass(day);
        return pool.serve();
    }

    private static void boxesRefused() {
        Check.Use ahead = p -> p.box(1, 1, 1);
        Check.Use full = p -> {
            for (int i = 0; i < 40; i++) {
                p.box(0, -1, 5);
            }
        };
        CHECK.noSuch("box of lessor 3", ahead, p -> p.box(0, 3, 0));
        CHECK.noSuch("box of lessor -2", ahead, p -> p.box(0, -2, 0));
        CHECK.noSuch("box of no lessor comes first", ahead, p -> p.box(3, 3, 10000));
        CHECK.outOfRange("box of kind 3", ahead, p -> p.box(3, 0, 0));
        CHECK.outOfRange("box of kind -1", ahead, p -> p.box(-1, 0, 0));
        CHECK.outOfRange("box until 10000", ahead, p -> p.box(0, 0, 10000));
        CHECK.outOfRange("box until -1", ahead, p -> p.box(0, -1, -1));
        CHECK.notNow("box 41", full, p -> p.box(0, -1, 0));
        CHECK.noSuch("box 41 of no lessor", full, p -> p.box(0, 3, 0));
        CHECK.outOfRange("box 41 of no kind", full, p -> p.box(3, 0, 0));
    }

    /** "Boxes are numbered from 0, at most 40": the last one is as good as the first, and there is none behind it. */
    private static void fortyBoxes() {
        BoxPool pool = new BoxPool();
        for (int number = 0; number < 40; number++) {
            pool.box(number / 39, 2, 50);
        }
        CHECK.same("report of box 39", 0, pool.report(39, 0, BoxPool.IN, 5));
        CHECK.same("place of box 39", 5, pool.place(39, 0));
        CHECK.same("count of box 39", 1, pool.count(5, 1, 0));
        CHECK.same("days of box 39", 401, pool.days(39, 0, 400, 5));
        pool.lease(39, 0, 9);
        CHECK.same("payer of box 39", BoxPool.LINE, pool.payer(39, 9));
        CHECK.same("damage of box 39", 50, pool.damage(39, 0, 5));
        CHECK.same("mend of box 39", 50, pool.mend(39));
        pool.book(4, 1, 1);
        CHECK.same("box 39 is brought", 39, pool.brings(1, 0));
        pool.book(5, 1, 1);
        CHECK.same("box 39 is given", 1, pool.serve());
        CHECK.same("box 39 is given to it", 1, pool.boxIs(39, 4));
        CHECK.same("box 39 was given", 1, pool.end(1));
        CHECK.same("wash of box 39", true, pool.wash(39, 50));
        CHECK.same("handIn of box 39", 1, pool.handIn(39));
        Check.Use crowded = p -> {
            for (int i = 0; i < 40; i++) {
                p.box(0, 0, 50);
            }
        };
        CHECK.noSuch("wash of box 40", crowded, p -> p.wash(40, 50));
        CHECK.noSuch("report of box 40", crowded, p -> p.report(40, 0, BoxPool.IN, 0));
        CHECK.noSuch("place of box 40", crowded, p -> p.place(40, 0));
        CHECK.noSuch("days of box 40", crowded, p -> p.days(40, 0, 0, 0));
        CHECK.noSuch("lease of box 40", crowded, p -> p.lease(40, 0, 0));
        CHECK.noSuch("payer of box 40", crowded, p -> p.payer(40, 0));
        CHECK.noSuch("handIn of box 40", crowded, p -> p.handIn(40));
        CHECK.noSuch("damage of box 40", crowded, p -> p.damage(40, 0, 5));
        CHECK.noSuch("mend of box 40", crowded, p -> p.mend(40));
        CHECK.noSuch("boxIs of box 40", crowded, p -> p.boxIs(40, 0));
    }

    private static void washes() {
        BoxPool pool = new BoxPool();
        pool.box(0, -1, 3);
        pool.report(0, 0, 0, 0);
        CHECK.same("wash of a clean one", false, pool.wash(0, 9));
        pool.pass(9);
        pool.book(0, 0, 1);
        CHECK.same("the new certificate", 1, pool.serve());
        CHECK.same("wash of a given one", false, pool.wash(0, 20));
        CHECK.same("it stays given", 0, pool.boxIs(0, 4));
        pool.end(0);
        pool.book(0, 0, 1);
        CHECK.same("a dirty one serves nothing", 0, pool.serve());
        CHECK.same("wash of a dirty one", true, pool.wash(0, 8));
        CHECK.same("clean then", 0, pool.boxIs(0, 3));
        CHECK.same("a lesser certificate is in place of a greater one", 0, pool.serve());
        CHECK.same("wash again", false, pool.wash(0, 9999));
        CHECK.same("served then", 1, pool.serve());
    }

    private static void washesRefused() {
        Check.Use gone = p -> {
            p.box(0, 0, 50);
            p.report(0, 0, 0, 0);
            p.lease(0, 0, 5);
            p.handIn(0);
        };
        Check.Use dirty = p -> {
            p.box(0, -1, 50);
            p.report(0, 0, 0, 0);
            p.book(0, 0, 1);
            p.serve();
            p.end(0);
        };
        CHECK.noSuch("wash of no box", dirty, p -> p.wash(1, 0));
        CHECK.noSuch("wash of box -1", dirty, p -> p.wash(-1, 0));
        CHECK.noSuch("wash of no box comes first", dirty, p -> p.wash(40, -1));
        CHECK.outOfRange("wash until -1", dirty, p -> p.wash(0, -1));
        CHECK.outOfRange("wash until 10000", dirty, p -> p.wash(0, 10000));
        CHECK.outOfRange("wash of a GONE one out of range", gone, p -> p.wash(0, 10000));
        CHECK.notNow("wash of a GONE one", gone, p -> p.wash(0, 0));
    }

    private static void passes() {
        BoxPool pool = new BoxPool();
        CHECK.same("pass 1", 1, pool.pass(1));
        int day = 1;
        for (int i = 0; i < 24; i++) {
            day += 400;
            CHECK.same("pass 400", day, pool.pass(400));
        }
        CHECK.same("pass to the last day", 9999, pool.pass(9999 - day));
        CHECK.thrown("pass behind it", IllegalStateException.class, pool, p -> p.pass(1));
        pool.box(0, -1, 0);
        CHECK.same("report on the last day", 0, pool.report(0, 9999, 0, 0));
    }

    private static void passesRefused() {
        Check.Use ahead = p -> p.pass(10);
        Check.Use late = p -> {
            for (int i = 0; i < 24; i++) {
                p.pass(400);
            }
        };
        CHECK.outOfRange("pass 0", ahead, p -> p.pass(0));
        CHECK.outOfRange("pass -1", ahead, p -> p.pass(-1));
        CHECK.outOfRange("pass 401", ahead, p -> p.pass(401));
        CHECK.outOfRange("pass of the greatest number", ahead, p -> p.pass(Integer.MAX_VALUE));
        CHECK.notNow("pass to 10000", late, p -> p.pass(400));
        CHECK.outOfRange("pass 401 late", late, p -> p.pass(401));
        BoxPool pool = new BoxPool();
        late.on(pool);
        CHECK.same("pass to 9999", 9999, pool.pass(399));
    }
}
