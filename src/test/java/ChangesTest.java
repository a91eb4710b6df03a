import java.util.EnumSet;
import java.util.Set;

/** What each call changes, and that it changes nothing else: an object on which it was made is asked in all ways. */
public final class ChangesTest {
    private static final Check CHECK = new Check("ChangesTest");
    private static final Probe ASKED = Probe.ASKED, PLACES = Probe.PLACES, PAYERS = Probe.PAYERS;
    private static final Probe SETTINGS = Probe.SETTINGS, ROOM = Probe.ROOM, REPORTS = Probe.REPORTS;
    private static final Probe HANDED = Probe.HANDED, TODAY = Probe.SERVED_TODAY, TOMORROW = Probe.SERVED_TOMORROW;
    private static final Probe DAY_50 = Probe.SERVED_ON_DAY_50, DAY_51 = Probe.SERVED_ON_DAY_51;

    public static void main(String[] args) {
        questions();
        tellingWhatIsSo();
        settings();
        settingsTakenBack();
        boxes();
        reports();
        leases();
        damages();
        bookings();
        days();
        CHECK.finish();
    }

    /**
     * Day 9: box 0 on lease at port 1, box 1 of the line with wear at port 2, box 2 damaged on the road since day 5, box
     * 3 dirty and damaged, box 4 given to booking 1, and box 5 GONE; one unit of kind 0 lacks at port 2, three of kind 1
     * at port 4. Settings of each sort are not what they were at first.
     */
    private static void ahead(BoxPool pool) {
        int[] kinds = {1, 0, 0, 2, 2, 2};
        int[] lessors = {1, -1, 0, -1, 2, 2};
        int[] ports = {1, 2, 1, 0, 0, 5};
        pool.pass(9);
        for (int box = 0; box < kinds.length; box++) {
            pool.box(kinds[box], lessors[box], 50);
            pool.report(box, 3, BoxPool.IN, ports[box]);
        }
        pool.report(2, 5, BoxPool.OUT, 1);
        pool.lease(0, 0, 9999);
        pool.lease(5, 0, 9999);
        pool.handIn(5);
        pool.book(0, 2, 1);
        pool.serve();
        pool.end(0);
        pool.book(0, 2, 1);
        pool.serve();
        pool.book(2, 0, 1);
        pool.book(4, 1, 3);
        pool.damage(1, 0, 3);
        pool.damage(2, 1, 9);
        pool.damage(3, 1, 9);
        pool.free(4);
        pool.limit(400);
        pool.standard(3, 1);
        pool.cost(2, 5, 50);
        pool.quota(2, 3, 4);
    }

    /** Just these ways of asking tell the object from one on which the call was not made. */
    private static void changes(String what, Check.Use call, Probe... seen) {
        Set<Probe> due = EnumSet.noneOf(Probe.class);
        due.addAll(Set.of(seen));
        for (Probe probe : Probe.values()) {
            BoxPool touched = new BoxPool();
            ahead(touched);
            call.on(touched);
            BoxPool untouched = new BoxPool();
            ahead(untouched);
            boolean differs = !probe.of(untouched).equals(probe.of(touched));
            CHECK.same(what + ", seen by " + probe, due.contains(probe), differs);
        }
    }

    private static void questions() {
        for (int i = 0; i < 3; i++) {
            int number = i;
            changes("place", p -> p.place(number, 9));
            changes("place to come", p -> p.place(number, 9999));
            changes("payer", p -> p.payer(number, 9));
            changes("payer to come", p -> p.payer(number, 9999));
            changes("days", p -> p.days(number, 0, 400, BoxPool.ROAD));
            changes("days at a port", p -> p.days(number, 9999, 10399, 1));
            changes("count", p -> p.count(number, -1, 9));
            changes("count of a kind", p -> p.count(1, number, 9999));
            changes("bring", p -> p.bring(number));
            for (int unit = 0; unit < 6; unit++) {
                int asked = unit;
                changes("brings", p -> p.brings(number, asked));
            }
            for (int what = 0; what < 8; what++) {
                int asked = what;
                changes("boxIs", p -> p.boxIs(number, asked));
            }
        }
        for (int i = 0; i < 4; i++) {
            int booking = i;
            changes("lacks", p -> p.lacks(booking));
        }
    }

    private static void tellingWhatIsSo() {
        changes("a report told twice", p -> p.report(0, 3, BoxPool.IN, 1));
        changes("cost as it is", p -> p.cost(1, 4, 100));
        changes("quota as it is", p -> p.quota(1, 1, 2));
        changes("free as it is", p -> p.free(4));
        changes("standard as it is", p -> p.standard(3, 1));
        changes("limit as it is", p -> p.limit(400));
        changes("wash of a clean one with its certificate", p -> p.wash(0, 50));
        changes("wash of a given one with its certificate", p -> p.wash(4, 50));
    }

    private static void settings() {
        changes("cost of a way of the plan", p -> p.cost(1, 4, 7), SETTINGS, ASKED);
        changes("cost of the way back", p -> p.cost(4, 1, 7), SETTINGS);
        changes("quota of its lessor where it is", p -> p.quota(1, 1, 5), SETTINGS, HANDED);
        changes("quota of its lessor elsewhere", p -> p.quota(1, 2, 5), SETTINGS);
        changes("free", p -> p.free(7), SETTINGS, PAYERS);
        changes("limit", p -> p.limit(7), SETTINGS);
        changes("standard below wear", p -> p.standard(0, 2), SETTINGS, ASKED, ROOM, TODAY, TOMORROW, DAY_50);
        changes("standard of a code that no damage has", p -> p.standard(4, 9), SETTINGS);
    }

    private static void settingsTakenBack() {
        changes("cost and back", p -> {
            p.cost(1, 4, 9999);
            p.cost(2, 5, 0);
            p.cost(1, 4, 100);
            p.cost(2, 5, 50);
        });
        changes("quota and back", p -> {
            p.quota(1, 1, 0);
            p.quota(1, 1, 2);
        });
        changes("free and back", p -> {
            p.free(0);
            p.free(4);
        });
        changes("standard and back", p -> {
            p.standard(0, 0);
            p.standard(1, 20);
            p.standard(0, 3);
            p.standard(1, 3);
            p.standard(3, 20);
            p.standard(3, 1);
        });
        changes("limit and back", p -> {
            p.limit(0);
            p.limit(400);
        });
        changes("certificate and back", p -> {
            p.wash(0, 0);
            p.wash(0, 50);
        });
    }

    private static void boxes() {
        changes("box", p -> p.box(2, 2, 50), ASKED, SETTINGS, ROOM, HANDED, TODAY, TOMORROW, DAY_50, DAY_51);
        changes("wash with a greater certificate", p -> p.wash(0, 51), DAY_51);
        changes("wash with one up to today", p -> p.wash(0, 9), TOMORROW, DAY_50);
        changes("wash with one of yesterday", p -> p.wash(0, 8), ASKED, TODAY, TOMORROW, DAY_50);
        changes("wash of a dirty one that is damaged", p -> p.wash(3, 50), ASKED, TODAY, TOMORROW, DAY_50, DAY_51);
    }

    private static void reports() {
        changes("a report that fits", p -> p.report(0, 9, BoxPool.OUT, 1), ASKED, PLACES, PAYERS, REPORTS, HANDED, TODAY,
            TOMORROW, DAY_50);
        changes("a doubtful report", p -> p.report(0, 9, BoxPool.OUT, 2), ASKED, REPORTS, HANDED);
        changes("one of the day ahead of its first one", p -> p.report(1, 2, BoxPool.LAND, 2), ASKED, PLACES, REPORTS,
            HANDED);
        changes("a report of a given one", p -> p.report(4, 9, BoxPool.OUT, 0), HANDED);
    }

    private static void leases() {
        changes("lease in place of one", p -> p.lease(0, 20, 25), PAYERS, ROOM);
        changes("lease of yesterday and today", p -> p.lease(2, 8, 9), ASKED, PAYERS);
        changes("lease of today, when the CUSTOMER pays", p -> p.lease(2, 9, 9), ASKED);
        changes("handIn", p -> p.handIn(0), ASKED, PAYERS, ROOM, REPORTS, HANDED, TODAY, TOMORROW, DAY_50);
    }

    private static void damages() {
        changes("a damage that counts", p -> p.damage(0, 0, 4), ASKED, SETTINGS, ROOM, TODAY, TOMORROW, DAY_50);
        changes("wear", p -> p.damage(0, 4, 3), SETTINGS, ROOM);
        changes("a damage of a given one", p -> p.damage(4, 0, 4), ASKED, SETTINGS);
        changes("mend", p -> p.mend(2), ASKED, SETTINGS);
        changes("mend of a dirty one", p -> p.mend(3), ASKED, SETTINGS);
    }

    private static void bookings() {
        changes("book", p -> p.book(5, 2, 4), ASKED, ROOM, TODAY, TOMORROW, DAY_50, DAY_51);
        changes("serve", p -> p.serve(), ASKED, TODAY, TOMORROW, DAY_50, DAY_51);
        changes("end of one with a box", p -> p.end(1), ASKED, HANDED, TODAY, TOMORROW, DAY_50, DAY_51);
        changes("end of one without boxes", p -> p.end(3), ASKED, TODAY, TOMORROW, DAY_50, DAY_51);
        changes("serve and end", p -> {
            p.serve();
            p.end(2);
        }, ASKED, TODAY, TOMORROW, DAY_50, DAY_51);
        BoxPool pool = new BoxPool();
        ahead(pool);
        pool.serve();
        String once = ASKED.of(pool);
        CHECK.same("serve again gives nothing", 0, pool.serve());
        CHECK.same("and changes nothing", once, ASKED.of(pool));
    }

    private static void days() {
        // What passes a day more tells the number of it; and the lease of the GONE one ended yesterday then.
        changes("pass", p -> p.pass(1), ASKED, REPORTS, TOMORROW);
        changes("pass to the last day of the certificates", p -> p.pass(41), ASKED, REPORTS, TOMORROW, DAY_50);
        changes("pass beyond them", p -> p.pass(42), REPORTS, ASKED, TODAY, TOMORROW, DAY_50, DAY_51);
    }
}
