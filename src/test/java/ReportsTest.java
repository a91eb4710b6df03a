/** Promises 5 to 8: report, place, count, days. */
public final class ReportsTest {
    private static final Check CHECK = new Check("ReportsTest");
    private static final int IN = 0, OUT = 1, LOAD = 2, LAND = 3;
    private static final int NOWHERE = 10, ROAD = 11, SHIP = 12;

    public static void main(String[] args) {
        fits();
        leavesThatPortOnly();
        lateReports();
        sameDay();
        toldTwice();
        full();
        thirtyWithoutThoseToldTwice();
        reportsRefused();
        places();
        counts();
        countsOfGone();
        countsRefused();
        days();
        daysAtEachPlace();
        daysRefused();
        CHECK.finish();
    }

    private static BoxPool poolAt(int day) {
        BoxPool pool = new BoxPool();
        pool.box(0, -1, 9999);
        if (day > 0) {
            pool.pass(day);
        }
        return pool;
    }

    /** Each event in each place, with what is due: the place behind it, and whether it is doubtful. */
    private static void fits() {
        int[][] ahead = {{}, {IN, OUT}, {IN, LOAD}, {IN}};
        int[] places = {NOWHERE, ROAD, SHIP, 2};
        int[][] behind = {
            {4, NOWHERE, NOWHERE, 4},
            {4, ROAD, ROAD, ROAD},
            {SHIP, SHIP, SHIP, 4},
            {2, 2, 2, 2},
        };
        boolean[][] fit = {
            {true, false, false, true},
            {true, false, false, false},
            {false, false, false, true},
            {false, false, false, false},
        };
        for (int from = 0; from < places.length; from++) {
            for (int event = IN; event <= LAND; event++) {
                BoxPool pool = poolAt(9);
                for (int i = 0; i < ahead[from].length; i++) {
                    pool.report(0, i, ahead[from][i], 2);
                }
                CHECK.same("place ahead", places[from], pool.place(0, 9));
                String what = "event " + event + " at " + places[from];
                CHECK.same(what + " doubtful", fit[from][event] ? 0 : 1, pool.report(0, 9, event, 4));
                CHECK.same(what, behind[from][event], pool.place(0, 9));
                CHECK.same(what + " is doubtful", fit[from][event] ? 0 : 1, pool.boxIs(0, 6));
            }
        }
        BoxPool pool = poolAt(9);
        pool.report(0, 1, IN, 2);
        CHECK.same("OUT at the port", 0, pool.report(0, 2, OUT, 2));
        CHECK.same("on the ROAD", ROAD, pool.place(0, 2));
        pool.report(0, 3, IN, 5);
        CHECK.same("LOAD at the port", 0, pool.report(0, 4, LOAD, 5));
        CHECK.same("on a SHIP", SHIP, pool.place(0, 4));
        CHECK.same("IN of the port where it is", 1, pool.report(0, 4, IN, 5));
    }

    /** "OUT and LOAD, if it is at that port": for each port that it is at, and each port that is told. */
    private static void leavesThatPortOnly() {
        for (int at = 0; at < 6; at++) {
            for (int told = 0; told < 6; told++) {
                for (int event = OUT; event <= LOAD; event++) {
                    BoxPool pool = poolAt(1);
                    CHECK.same("IN at " + at, 0, pool.report(0, 0, IN, at));
                    String what = "event " + event + " at " + at + " told of " + told;
                    CHECK.same(what, at == told ? 0 : 1, pool.report(0, 1, event, told));
                    int behind = event == OUT ? ROAD : SHIP;
                    CHECK.same(what + ", the place", at == told ? behind : at, pool.place(0, 1));
                }
            }
        }
    }

    private static void lateReports() {
        BoxPool pool = poolAt(30);
        CHECK.same("OUT of nowhere", 1, pool.report(0, 20, OUT, 1));
        CHECK.same("LAND behind it", 1, pool.report(0, 25, LAND, 3));
        CHECK.same("IN ahead of both: OUT fits, LAND does not", 1, pool.report(0, 10, IN, 1));
        CHECK.same("place on the road", ROAD, pool.place(0, 30));
        CHECK.same("IN between", 1, pool.report(0, 22, IN, 0));
        CHECK.same("LOAD between: all fit", 0, pool.report(0, 23, LOAD, 0));
        CHECK.same("landed", 3, pool.place(0, 25));
        CHECK.same("loaded", SHIP, pool.place(0, 24));
        CHECK.same("in", 0, pool.place(0, 22));
        CHECK.same("out", ROAD, pool.place(0, 21));
        CHECK.same("in first", 1, pool.place(0, 19));
        CHECK.same("a LAND elsewhere ahead of all makes all five doubtful", 5, pool.report(0, 5, LAND, 4));
        CHECK.same("its place", 4, pool.place(0, 9));
        CHECK.same("IN does not fit then", 4, pool.place(0, 10));
        CHECK.same("nor does any other", 4, pool.place(0, 30));
    }

    private static void sameDay() {
        BoxPool pool = poolAt(5);
        CHECK.same("OUT first", 1, pool.report(0, 5, OUT, 1));
        CHECK.same("IN behind it on the same day", 1, pool.report(0, 5, IN, 1));
        CHECK.same("there", 1, pool.place(0, 5));
        BoxPool other = poolAt(5);
        CHECK.same("IN first", 0, other.report(0, 5, IN, 1));
        CHECK.same("OUT behind it", 0, other.report(0, 5, OUT, 1));
        CHECK.same("off", ROAD, other.place(0, 5));
        CHECK.same("LAND ahead", 1, other.report(0, 4, LAND, 1));
        CHECK.same("OUT fits, IN not", ROAD, other.place(0, 5));
        CHECK.same("IN elsewhere on that day, told last", 1, other.report(0, 5, IN, 2));
        CHECK.same("there then", 2, other.place(0, 5));
        BoxPool third = poolAt(5);
        third.report(0, 3, IN, 1);
        third.report(0, 5, OUT, 2);
        CHECK.same("told last of day 3: behind the IN of that day", 1, third.report(0, 3, OUT, 1));
        CHECK.same("one more of day 3: behind both, ahead of day 5", 0, third.report(0, 3, IN, 2));
        CHECK.same("in on day 3", 2, third.place(0, 4));
        CHECK.same("off on day 5", ROAD, third.place(0, 5));
    }

    private static void toldTwice() {
        BoxPool pool = poolAt(5);
        pool.box(0, -1, 0);
        CHECK.same("told", 0, pool.report(0, 3, IN, 1));
        CHECK.same("told twice", -1, pool.report(0, 3, IN, 1));
        CHECK.same("another day", 1, pool.report(0, 4, IN, 1));
        CHECK.same("another port", 2, pool.report(0, 3, IN, 2));
        CHECK.same("another event", 3, pool.report(0, 3, LAND, 1));
        CHECK.same("a doubtful one twice", -1, pool.report(0, 3, LAND, 1));
        CHECK.same("doubtful", 3, pool.boxIs(0, 6));
        CHECK.same("another box", 0, pool.report(1, 3, IN, 1));
        for (int i = 0; i < 40; i++) {
            CHECK.same("told often", -1, pool.report(1, 3, IN, 1));
        }
        CHECK.same("is not counted", 0, pool.report(1, 4, OUT, 1));
    }

    private static void full() {
        BoxPool pool = poolAt(40);
        for (int i = 0; i < 30; i++) {
            CHECK.same("report " + i, 0, pool.report(0, 40 - i, LAND, i % 6) - i);
        }
        CHECK.thrown("report 31", IllegalStateException.class, pool, p -> p.report(0, 1, IN, 0));
        CHECK.thrown("report 31 told twice", IllegalStateException.class, pool, p -> p.report(0, 40, LAND, 0));
        CHECK.same("doubtful", 29, pool.boxIs(0, 6));
        CHECK.same("the first day decides", 5, pool.place(0, 40));
    }

    /** "Told twice ... does not count again; a box has 30 at most". */
    private static void thirtyWithoutThoseToldTwice() {
        BoxPool pool = poolAt(40);
        for (int i = 0; i < 29; i++) {
            pool.report(0, i, LAND, 0);
            CHECK.same("told twice", -1, pool.report(0, i, LAND, 0));
        }
        CHECK.same("report 30", 28, pool.report(0, 29, LOAD, 0));
        CHECK.same("it counts", SHIP, pool.place(0, 29));
        CHECK.thrown("report 30 again", IllegalStateException.class, pool, p -> p.report(0, 29, LOAD, 0));
        CHECK.thrown("report 31", IllegalStateException.class, pool, p -> p.report(0, 30, LAND, 0));
        CHECK.same("what is refused does not count", SHIP, pool.place(0, 40));
        pool.box(0, -1, 0);
        CHECK.same("another box has room", 0, pool.report(1, 30, LAND, 0));
    }

    private static void reportsRefused() {
        Check.Use ahead = p -> {
            p.box(0, -1, 50);
            p.pass(9);
            p.report(0, 3, IN, 1);
        };
        Check.Use gone = p -> {
            ahead.on(p);
            p.box(0, 2, 50);
            p.report(1, 3, IN, 1);
            p.lease(1, 0, 50);
            p.handIn(1);
        };
        Check.Use filled = p -> {
            ahead.on(p);
            for (int i = 0; i < 29; i++) {
                p.report(0, i % 10, i / 10, 2);
            }
        };
        CHECK.noSuch("report of no box", ahead, p -> p.report(1, 3, OUT, 1));
        CHECK.noSuch("report of box -1", ahead, p -> p.report(-1, 3, OUT, 1));
        CHECK.noSuch("report of port 6", ahead, p -> p.report(0, 3, OUT, 6));
        CHECK.noSuch("report of port -1", ahead, p -> p.report(0, 3, OUT, -1));
        CHECK.noSuch("report of no port comes ahead of range", ahead, p -> p.report(0, -1, 4, 6));
        CHECK.outOfRange("report of tomorrow", ahead, p -> p.report(0, 10, OUT, 1));
        CHECK.outOfRange("report of day -1", ahead, p -> p.report(0, -1, OUT, 1));
        CHECK.outOfRange("report of event 4", ahead, p -> p.report(0, 4, 4, 1));
        CHECK.outOfRange("report of event -1", ahead, p -> p.report(0, 4, -1, 1));
        CHECK.outOfRange("report of tomorrow of a GONE one", gone, p -> p.report(1, 10, OUT, 1));
        CHECK.noSuch("report of a GONE one at no port", gone, p -> p.report(1, 4, OUT, 6));
        CHECK.notNow("report of a GONE one", gone, p -> p.report(1, 9, OUT, 1));
        CHECK.notNow("report of a GONE one told twice", gone, p -> p.report(1, 3, IN, 1));
        CHECK.notNow("report of a full one", filled, p -> p.report(0, 9, OUT, 0));
        CHECK.notNow("report of a full one told twice", filled, p -> p.report(0, 3, IN, 1));
        CHECK.outOfRange("report of a full one of tomorrow", filled, p -> p.report(0, 10, OUT, 0));
    }

    private static void places() {
        BoxPool pool = poolAt(9);
        CHECK.same("place without reports", NOWHERE, pool.place(0, 9999));
        pool.report(0, 4, LAND, 3);
        CHECK.same("the day ahead", NOWHERE, pool.place(0, 3));
        CHECK.same("the day", 3, pool.place(0, 4));
        CHECK.same("days to come", 3, pool.place(0, 9999));
        pool.report(0, 0, IN, 0);
        CHECK.same("day 0", 0, pool.place(0, 0));
        Check.Use one = p -> p.box(0, -1, 0);
        CHECK.noSuch("place of no box", one, p -> p.place(1, 0));
        CHECK.noSuch("place of box -1", one, p -> p.place(-1, 0));
        CHECK.noSuch("place of no box on no day", one, p -> p.place(40, -1));
        CHECK.outOfRange("place on day -1", one, p -> p.place(0, -1));
        CHECK.outOfRange("place on day 10000", one, p -> p.place(0, 10000));
    }

    private static void counts() {
        BoxPool pool = new BoxPool();
        for (int i = 0; i < 8; i++) {
            pool.box(i % 3, 0, 0);
        }
        pool.pass(9);
        for (int i = 0; i < 8; i++) {
            pool.report(i, i, IN, 2);
        }
        pool.report(7, 8, OUT, 2);
        pool.report(6, 9, LOAD, 2);
        CHECK.same("all on day 0", 1, pool.count(2, -1, 0));
        CHECK.same("all on day 7", 8, pool.count(2, -1, 7));
        CHECK.same("all on day 8", 7, pool.count(2, -1, 8));
        CHECK.same("all to come", 6, pool.count(2, -1, 9999));
        CHECK.same("kind 0 on day 8", 3, pool.count(2, 0, 8));
        CHECK.same("kind 1 on day 7", 3, pool.count(2, 1, 7));
        CHECK.same("kind 2 on day 9", 2, pool.count(2, 2, 9));
        CHECK.same("another port", 0, pool.count(3, -1, 9));
        pool.lease(0, 0, 99);
        pool.handIn(0);
        CHECK.same("a GONE one is with them", 6, pool.count(2, -1, 9));
        CHECK.same("a GONE one is with its kind", 2, pool.count(2, 0, 10));
    }

    /** "Those that are GONE by now with them", on days ahead and behind. */
    private static void countsOfGone() {
        BoxPool pool = new BoxPool();
        for (int box = 0; box < 2; box++) {
            pool.box(box, 0, 0);
            pool.lease(box, 0, 99);
        }
        pool.pass(9);
        pool.report(0, 3, IN, 0);
        pool.report(1, 4, LAND, 5);
        pool.handIn(0);
        pool.handIn(1);
        pool.pass(9);
        CHECK.same("GONE, ahead of its report", 0, pool.count(0, -1, 2));
        CHECK.same("GONE, on the day of its report", 1, pool.count(0, -1, 3));
        CHECK.same("GONE, on the day when it was handed in", 1, pool.count(0, 0, 9));
        CHECK.same("GONE, on the last day", 1, pool.count(0, 0, 9999));
        CHECK.same("GONE at port 5, the day ahead", 0, pool.count(5, 1, 3));
        CHECK.same("GONE at port 5, the day", 1, pool.count(5, 1, 4));
        CHECK.same("of another kind", 0, pool.count(5, 0, 9999));
        CHECK.same("of all kinds", 1, pool.count(5, -1, 9999));
    }

    private static void countsRefused() {
        Check.Use none = p -> { };
        CHECK.noSuch("count at port 6", none, p -> p.count(6, 0, 0));
        CHECK.noSuch("count at port -1", none, p -> p.count(-1, 0, 0));
        CHECK.noSuch("count at NOWHERE", none, p -> p.count(NOWHERE, 3, -1));
        CHECK.outOfRange("count of kind 3", none, p -> p.count(0, 3, 0));
        CHECK.outOfRange("count of kind -2", none, p -> p.count(0, -2, 0));
        CHECK.outOfRange("count on day -1", none, p -> p.count(0, 0, -1));
        CHECK.outOfRange("count on day 10000", none, p -> p.count(0, -1, 10000));
    }

    private static void days() {
        BoxPool pool = poolAt(20);
        pool.report(0, 2, IN, 1);
        pool.report(0, 5, OUT, 1);
        pool.report(0, 9, IN, 1);
        pool.report(0, 9, LOAD, 1);
        pool.report(0, 15, LAND, 4);
        CHECK.same("days nowhere", 2, pool.days(0, 0, 400, NOWHERE));
        CHECK.same("days at 1", 3, pool.days(0, 0, 400, 1));
        CHECK.same("days on the road", 4, pool.days(0, 0, 400, ROAD));
        CHECK.same("days on a ship", 6, pool.days(0, 0, 400, SHIP));
        CHECK.same("days at 4", 386, pool.days(0, 0, 400, 4));
        CHECK.same("days at 0", 0, pool.days(0, 0, 400, 0));
        CHECK.same("both days with it", 2, pool.days(0, 8, 15, ROAD) + pool.days(0, 8, 15, 4));
        CHECK.same("one day", 1, pool.days(0, 5, 5, ROAD));
        CHECK.same("one other day", 0, pool.days(0, 4, 4, ROAD));
        CHECK.same("beyond 9999", 401, pool.days(0, 9999, 10399, 4));
        CHECK.same("some days beyond", 11, pool.days(0, 9995, 10005, 4));
    }

    /** "A port, or NOWHERE to SHIP": the first and the last port with them, and "both days" at each end. */
    private static void daysAtEachPlace() {
        BoxPool pool = poolAt(20);
        pool.report(0, 3, LAND, 0);
        pool.report(0, 6, OUT, 0);
        pool.report(0, 8, IN, 5);
        pool.report(0, 12, LOAD, 5);
        int[] places = {NOWHERE, 0, ROAD, 5, SHIP};
        int[] firstDays = {0, 3, 6, 8, 12, 10400};
        for (int i = 0; i < places.length; i++) {
            int first = firstDays[i];
            int last = Math.min(firstDays[i + 1] - 1, first + 400);
            CHECK.same("all days at " + places[i], last - first + 1, pool.days(0, first, last, places[i]));
            CHECK.same("the first day at " + places[i], 1, pool.days(0, first, first, places[i]));
            CHECK.same("the last day at " + places[i], 1, pool.days(0, last, last, places[i]));
            if (first > 0) {
                CHECK.same("the day ahead of " + places[i], 0, pool.days(0, first - 1, first - 1, places[i]));
                CHECK.same("and the first at " + places[i], 1, pool.days(0, first - 1, first, places[i]));
            }
            if (last < 20) {
                CHECK.same("the day behind " + places[i], 0, pool.days(0, last + 1, last + 1, places[i]));
            }
        }
        CHECK.same("on a ship beyond 9999", 401, pool.days(0, 9999, 10399, SHIP));
        CHECK.same("at a port where it never was", 0, pool.days(0, 0, 400, 3));
        BoxPool untold = poolAt(0);
        CHECK.same("nowhere beyond 9999", 400, untold.days(0, 9999, 10398, NOWHERE));
    }

    private static void daysRefused() {
        Check.Use one = p -> p.box(0, -1, 0);
        CHECK.noSuch("days of no box", one, p -> p.days(1, 0, 0, 0));
        CHECK.noSuch("days of box -1 comes first", one, p -> p.days(-1, -1, -2, 9));
        CHECK.outOfRange("days from -1", one, p -> p.days(0, -1, 0, 0));
        CHECK.outOfRange("days from 10000", one, p -> p.days(0, 10000, 10000, 0));
        CHECK.outOfRange("days to the one ahead", one, p -> p.days(0, 5, 4, 0));
        CHECK.outOfRange("days to 401", one, p -> p.days(0, 0, 401, 0));
        CHECK.outOfRange("days to the greatest", one, p -> p.days(0, 9999, Integer.MAX_VALUE, 0));
        CHECK.outOfRange("days from the greatest", one, p -> p.days(0, Integer.MAX_VALUE, Integer.MIN_VALUE, 0));
        for (int place : new int[] {-1, 6, 9, 13, Integer.MIN_VALUE}) {
            CHECK.outOfRange("days at " + place, one, p -> p.days(0, 0, 0, place));
        }
    }
}
