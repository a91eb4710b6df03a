/** Promises 9 to 13: lease, free, payer, quota, handIn. */
public final class LeasesTest {
    private static final Check CHECK = new Check("LeasesTest");
    private static final int IN = 0, OUT = 1, LOAD = 2;
    private static final int LINE = 0, OWNER = 1, CUSTOMER = 2;

    public static void main(String[] args) {
        leases();
        leasesInPlaceOfOthers();
        leasesWheneverTheyEnd();
        tenLeases();
        leasesRefused();
        frees();
        payers();
        payersFromDayZero();
        payersOffTheRoad();
        payersRefused();
        quotas();
        handIns();
        handInsOfAMonth();
        handInEndsLeases();
        handInEndsOneLease();
        handInOnTheEdgesOfALease();
        quotasToTheEnd();
        goneIsGone();
        handInsRefused();
        CHECK.finish();
    }

    private static void leases() {
        BoxPool pool = new BoxPool();
        pool.box(0, 2, 0);
        CHECK.same("no lease", OWNER, pool.payer(0, 0));
        pool.lease(0, 3, 5);
        CHECK.same("ahead of it", OWNER, pool.payer(0, 2));
        CHECK.same("its first day", LINE, pool.payer(0, 3));
        CHECK.same("its last day", LINE, pool.payer(0, 5));
        CHECK.same("behind it", OWNER, pool.payer(0, 6));
        pool.pass(2);
        CHECK.same("not on lease today", 0, pool.boxIs(0, 7));
        pool.pass(1);
        CHECK.same("on lease today", 1, pool.boxIs(0, 7));
        pool.pass(3);
        CHECK.same("on lease no more", 0, pool.boxIs(0, 7));
        pool.lease(0, 9999, 9999);
        CHECK.same("the last day of all", LINE, pool.payer(0, 9999));
        pool.lease(0, 0, 9999);
        CHECK.same("a lease of all days", LINE, pool.payer(0, 0));
    }

    private static void leasesInPlaceOfOthers() {
        BoxPool pool = new BoxPool();
        pool.box(0, 0, 0);
        pool.lease(0, 0, 20);
        pool.lease(0, 5, 6);
        CHECK.same("ahead of the later one", LINE, pool.payer(0, 4));
        CHECK.same("on the later one", LINE, pool.payer(0, 6));
        CHECK.same("the later one ended", OWNER, pool.payer(0, 7));
        CHECK.same("and the first is not back", OWNER, pool.payer(0, 20));
        pool.lease(0, 10, 12);
        CHECK.same("still ended", OWNER, pool.payer(0, 9));
        CHECK.same("the third", LINE, pool.payer(0, 10));
        pool.lease(0, 2, 3);
        CHECK.same("one told last that begins ahead", LINE, pool.payer(0, 3));
        CHECK.same("is in place of all behind", OWNER, pool.payer(0, 10));
        CHECK.same("not of those ahead", LINE, pool.payer(0, 1));
        pool.lease(0, 2, 8);
        CHECK.same("of the same first day the later", LINE, pool.payer(0, 8));
    }

    /** "From its own first day on, whenever it ends": the later one ends ahead of, with, and behind the one before. */
    private static void leasesWheneverTheyEnd() {
        for (int last = 9; last <= 11; last++) {
            for (int first = 4; first <= 12; first++) {
                if (first <= last) {
                    BoxPool pool = new BoxPool();
                    pool.box(0, 0, 0);
                    pool.lease(0, 5, 10);
                    pool.lease(0, first, last);
                    for (int day = 3; day <= 13; day++) {
                        boolean leased = day < first ? day >= 5 && day <= 10 : day <= last;
                        CHECK.same("from " + first + " to " + last + ", day " + day, leased ? LINE : OWNER,
                            pool.payer(0, day));
                    }
                }
            }
        }
        BoxPool pool = new BoxPool();
        pool.box(0, 0, 0);
        pool.lease(0, 0, 9999);
        pool.lease(0, 9999, 9999);
        pool.lease(0, 0, 0);
        CHECK.same("a lease of the first day alone", LINE, pool.payer(0, 0));
        CHECK.same("is in place of all on the day behind it", OWNER, pool.payer(0, 1));
        CHECK.same("and on the last day", OWNER, pool.payer(0, 9999));
    }

    /** "Or has had 10": those that ended, and those in whose place others are, with them. */
    private static void tenLeases() {
        BoxPool pool = new BoxPool();
        pool.box(0, 0, 0);
        pool.box(0, 0, 0);
        for (int i = 0; i < 9; i++) {
            pool.lease(0, 7, 8);
        }
        pool.pass(20);
        CHECK.same("nine that ended", 0, pool.boxIs(0, 7));
        pool.lease(0, 20, 20);
        CHECK.same("the tenth", 1, pool.boxIs(0, 7));
        CHECK.thrown("the eleventh", IllegalStateException.class, pool, p -> p.lease(0, 20, 30));
        CHECK.same("is not told", OWNER, pool.payer(0, 21));
        pool.pass(20);
        CHECK.thrown("the eleventh when all ended", IllegalStateException.class, pool, p -> p.lease(0, 40, 50));
        pool.lease(1, 40, 50);
        CHECK.same("another box has room", 1, pool.boxIs(1, 7));
    }

    private static void leasesRefused() {
        Check.Use ahead = p -> {
            p.box(0, -1, 50);
            p.box(0, 1, 50);
            p.report(1, 0, IN, 1);
            p.lease(1, 0, 3);
        };
        Check.Use gone = p -> {
            ahead.on(p);
            p.handIn(1);
        };
        Check.Use ten = p -> {
            ahead.on(p);
            for (int i = 0; i < 9; i++) {
                p.lease(1, 5 * i, 5 * i + 2);
            }
        };
        CHECK.noSuch("lease of no box", ahead, p -> p.lease(2, 0, 9));
        CHECK.noSuch("lease of box -1 comes first", ahead, p -> p.lease(-1, 9, 0));
        CHECK.outOfRange("lease from -1", ahead, p -> p.lease(1, -1, 9));
        CHECK.outOfRange("lease from 10000", ahead, p -> p.lease(1, 10000, 10000));
        CHECK.outOfRange("lease to the day ahead", ahead, p -> p.lease(1, 9, 8));
        CHECK.outOfRange("lease to 10000", ahead, p -> p.lease(1, 9, 10000));
        CHECK.outOfRange("lease of the line's own out of range", ahead, p -> p.lease(0, 9, 8));
        CHECK.notNow("lease of the line's own", ahead, p -> p.lease(0, 0, 9));
        CHECK.notNow("lease of a GONE one", gone, p -> p.lease(1, 0, 9));
        CHECK.notNow("lease 11", ten, p -> p.lease(1, 0, 9999));
        CHECK.outOfRange("lease 11 out of range", ten, p -> p.lease(1, 9, 8));
        BoxPool pool = new BoxPool();
        ten.on(pool);
        CHECK.same("the tenth stands", LINE, pool.payer(1, 42));
        CHECK.same("and ends", OWNER, pool.payer(1, 43));
    }

    private static void frees() {
        BoxPool pool = new BoxPool();
        CHECK.same("free at first", 5, pool.free(0));
        CHECK.same("the least free", 0, pool.free(30));
        CHECK.same("the most free", 30, pool.free(7));
        Check.Use ahead = p -> p.free(8);
        CHECK.outOfRange("free -1", ahead, p -> p.free(-1));
        CHECK.outOfRange("free 31", ahead, p -> p.free(31));
    }

    private static void payers() {
        BoxPool pool = new BoxPool();
        pool.box(0, -1, 0);
        pool.box(0, 1, 0);
        pool.lease(1, 0, 11);
        pool.pass(60);
        for (int box = 0; box < 2; box++) {
            pool.report(box, 2, IN, 3);
            pool.report(box, 10, OUT, 3);
            pool.report(box, 50, IN, 3);
        }
        CHECK.same("own: four days ahead on the road", LINE, pool.payer(0, 14));
        CHECK.same("own: five days ahead", CUSTOMER, pool.payer(0, 15));
        CHECK.same("own: the last day of the road", CUSTOMER, pool.payer(0, 49));
        CHECK.same("own: back", LINE, pool.payer(0, 50));
        CHECK.same("leased: on lease", LINE, pool.payer(1, 11));
        CHECK.same("leased: ended", OWNER, pool.payer(1, 12));
        CHECK.same("leased: five days ahead", CUSTOMER, pool.payer(1, 15));
        CHECK.same("leased: back", OWNER, pool.payer(1, 50));
        pool.free(0);
        CHECK.same("none free: not on the road", LINE, pool.payer(0, 9));
        CHECK.same("none free: at once", CUSTOMER, pool.payer(0, 10));
        pool.free(1);
        CHECK.same("one free: not at once", LINE, pool.payer(0, 10));
        CHECK.same("one free: the day behind", CUSTOMER, pool.payer(0, 11));
        pool.free(30);
        CHECK.same("30 free", LINE, pool.payer(0, 39));
        CHECK.same("30 free were", CUSTOMER, pool.payer(0, 40));
        pool.report(0, 30, IN, 5);
        CHECK.same("a late report makes a day free again", LINE, pool.payer(0, 40));
        pool.report(0, 30, OUT, 5);
        CHECK.same("ROAD on each day again", CUSTOMER, pool.payer(0, 40));
    }

    private static void payersFromDayZero() {
        BoxPool pool = new BoxPool();
        pool.box(0, -1, 0);
        pool.report(0, 0, IN, 3);
        pool.report(0, 0, OUT, 3);
        CHECK.same("no days ahead of day 0", LINE, pool.payer(0, 0));
        CHECK.same("day 4", LINE, pool.payer(0, 4));
        CHECK.same("day 5, to come", CUSTOMER, pool.payer(0, 5));
        CHECK.same("the last day", CUSTOMER, pool.payer(0, 9999));
        pool.free(0);
        CHECK.same("day 0, none free", CUSTOMER, pool.payer(0, 0));
    }

    /** "If it is ROAD on it, and was on each of as many days ahead": no other place will do, nor one day off it. */
    private static void payersOffTheRoad() {
        BoxPool pool = new BoxPool();
        pool.box(0, 0, 0);
        pool.pass(100);
        pool.report(0, 10, IN, 3);
        pool.report(0, 20, OUT, 3);
        pool.report(0, 30, IN, 3);
        pool.report(0, 40, LOAD, 3);
        pool.lease(0, 21, 27);
        for (int free = 0; free <= 30; free++) {
            pool.free(free);
            for (int day = 15; day <= 50; day++) {
                boolean customer = day >= 20 + free && day < 30;
                int due = customer ? CUSTOMER : day >= 21 && day <= 27 ? LINE : OWNER;
                CHECK.same("free " + free + ", day " + day, due, pool.payer(0, day));
            }
        }
        pool.free(0);
        CHECK.same("nowhere, none free", OWNER, pool.payer(0, 9));
        pool.free(3);
        pool.report(0, 25, IN, 3);
        pool.report(0, 26, OUT, 3);
        CHECK.same("the day ahead of the one off the road", CUSTOMER, pool.payer(0, 24));
        CHECK.same("the day off the road", LINE, pool.payer(0, 25));
        CHECK.same("three days behind", OWNER, pool.payer(0, 28));
        CHECK.same("four days behind", CUSTOMER, pool.payer(0, 29));
    }

    private static void payersRefused() {
        Check.Use ahead = p -> p.box(0, 0, 50);
        CHECK.noSuch("payer of no box", ahead, p -> p.payer(1, 0));
        CHECK.noSuch("payer of box -1 comes first", ahead, p -> p.payer(-1, -1));
        CHECK.outOfRange("payer on day -1", ahead, p -> p.payer(0, -1));
        CHECK.outOfRange("payer on day 10000", ahead, p -> p.payer(0, 10000));
    }

    private static void quotas() {
        BoxPool pool = new BoxPool();
        for (int lessor = 0; lessor < 3; lessor++) {
            for (int port = 0; port < 6; port++) {
                CHECK.same("quota at first", 2, pool.quota(lessor, port, (lessor + port) % 10));
            }
        }
        CHECK.same("quota of 2 at 5", 7, pool.quota(2, 5, 9));
        CHECK.same("the greatest quota", 9, pool.quota(2, 5, 0));
        CHECK.same("the least quota", 0, pool.quota(2, 5, 1));
        CHECK.same("quota of 0 at 5", 5, pool.quota(0, 5, 1));
        Check.Use ahead = p -> p.quota(0, 0, 4);
        CHECK.noSuch("quota of lessor 3", ahead, p -> p.quota(3, 0, 0));
        CHECK.noSuch("quota of the line", ahead, p -> p.quota(-1, 0, 0));
        CHECK.noSuch("quota at port 6", ahead, p -> p.quota(0, 6, 0));
        CHECK.noSuch("quota at port -1 comes first", ahead, p -> p.quota(0, -1, 10));
        CHECK.outOfRange("quota 10", ahead, p -> p.quota(0, 0, 10));
        CHECK.outOfRange("quota -1", ahead, p -> p.quota(0, 0, -1));
    }

    /** Boxes of lessor 1 on lease at port 4, and one of lessor 2 there, and one of lessor 1 at port 5. */
    private static BoxPool poolOfLeased(int boxes) {
        BoxPool pool = new BoxPool();
        for (int i = 0; i < boxes + 2; i++) {
            pool.box(i % 3, i == boxes ? 2 : 1, 9999);
            pool.lease(i, 0, 9999);
            pool.report(i, 0, IN, i == boxes + 1 ? 5 : 4);
        }
        return pool;
    }

    private static void handIns() {
        BoxPool pool = poolOfLeased(6);
        CHECK.same("first", 1, pool.handIn(0));
        CHECK.same("GONE", 1, pool.boxIs(0, 2));
        CHECK.same("not GONE", 0, pool.boxIs(1, 2));
        CHECK.same("second", 0, pool.handIn(1));
        CHECK.thrown("third", IllegalStateException.class, pool, p -> p.handIn(2));
        CHECK.same("of another lessor", 1, pool.handIn(6));
        CHECK.same("at another port", 1, pool.handIn(7));
        pool.quota(1, 4, 4);
        CHECK.same("a greater quota", 1, pool.handIn(3));
        pool.quota(1, 4, 2);
        CHECK.thrown("a lesser quota", IllegalStateException.class, pool, p -> p.handIn(4));
        pool.quota(1, 4, 9);
        CHECK.same("the greatest quota", 5, pool.handIn(4));
        CHECK.thrown("GONE is GONE", IllegalStateException.class, pool, p -> p.handIn(4));
        CHECK.same("its life stays", 4, pool.place(4, 9999));
        pool.damage(2, 1, 9);
        CHECK.same("a damaged one too", 4, pool.handIn(2));
        CHECK.same("its damages stay", 180, pool.boxIs(2, 5));
        pool.standard(1, 9);
        CHECK.same("by the standard as it is", 0, pool.boxIs(2, 5));
    }

    private static void handInsOfAMonth() {
        BoxPool pool = poolOfLeased(6);
        pool.pass(28);
        CHECK.same("day 28", 1, pool.handIn(0));
        pool.pass(1);
        CHECK.same("day 29", 0, pool.handIn(1));
        pool.pass(1);
        CHECK.same("day 30, a new month", 1, pool.handIn(2));
        pool.pass(29);
        CHECK.same("day 59", 0, pool.handIn(3));
        CHECK.thrown("day 59 again", IllegalStateException.class, pool, p -> p.handIn(4));
        pool.pass(1);
        CHECK.same("day 60", 1, pool.handIn(4));
        pool.pass(360);
        CHECK.same("a year behind", 1, pool.handIn(5));
    }

    private static void handInEndsLeases() {
        BoxPool pool = new BoxPool();
        pool.box(0, 0, 9999);
        pool.report(0, 0, IN, 1);
        pool.lease(0, 0, 5);
        pool.lease(0, 8, 100);
        pool.lease(0, 50, 60);
        pool.pass(10);
        CHECK.same("handed in", 1, pool.handIn(0));
        CHECK.same("on lease today still", 1, pool.boxIs(0, 7));
        CHECK.same("payer today", LINE, pool.payer(0, 10));
        CHECK.same("payer tomorrow", OWNER, pool.payer(0, 11));
        CHECK.same("a lease that would begin", OWNER, pool.payer(0, 50));
        CHECK.same("one that ended stays ended", OWNER, pool.payer(0, 6));
        CHECK.same("and was", LINE, pool.payer(0, 5));
        CHECK.same("the second was", LINE, pool.payer(0, 8));
        pool.pass(1);
        CHECK.same("not on lease tomorrow", 0, pool.boxIs(0, 7));
        tenLeasesEnd();
    }

    /** "All its leases end today": the one that there is with them, on today still. */
    private static void handInEndsOneLease() {
        BoxPool pool = new BoxPool();
        pool.box(0, 0, 9999);
        pool.report(0, 0, IN, 0);
        pool.lease(0, 0, 9999);
        CHECK.same("handed in on day 0 at port 0", 1, pool.handIn(0));
        CHECK.same("today", LINE, pool.payer(0, 0));
        CHECK.same("today as told", 1, pool.boxIs(0, 7));
        CHECK.same("tomorrow", OWNER, pool.payer(0, 1));
        CHECK.same("the last day", OWNER, pool.payer(0, 9999));
    }

    /** "From a day to another one, both with it": on both it can be handed in, also where another one ends. */
    private static void handInOnTheEdgesOfALease() {
        for (int day = 3; day <= 8; day++) {
            BoxPool pool = new BoxPool();
            pool.box(0, 0, 9999);
            pool.report(0, 0, IN, 5);
            pool.lease(0, 4, 9999);
            pool.lease(0, 7, 7);
            pool.pass(day);
            CHECK.same("on lease on day " + day, day >= 4 && day <= 7, pool.boxIs(0, 7) == 1);
            if (day >= 4 && day <= 7) {
                CHECK.same("handed in on day " + day, 1, pool.handIn(0));
                CHECK.same("its payer on day 7 then", day == 7 ? LINE : OWNER, pool.payer(0, 7));
            } else {
                CHECK.thrown("handed in on day " + day, IllegalStateException.class, pool, p -> p.handIn(0));
            }
        }
    }

    /** "If fewer boxes of its lessor were handed in there in this month than the quota", from 0 to 9. */
    private static void quotasToTheEnd() {
        for (int quota = 0; quota <= 9; quota++) {
            BoxPool pool = poolOfLeased(11);
            pool.quota(1, 4, quota);
            for (int box = 0; box < quota; box++) {
                CHECK.same("quota " + quota + ", box " + box, quota - box - 1, pool.handIn(box));
            }
            int next = quota;
            CHECK.thrown("beyond " + quota, IllegalStateException.class, pool, p -> p.handIn(next));
            pool.quota(2, 4, 1);
            CHECK.same("of another lessor", 0, pool.handIn(11));
            pool.quota(1, 5, 1);
            CHECK.same("at another port", 0, pool.handIn(12));
            pool.pass(30);
            if (quota > 0) {
                CHECK.same("in the next month", quota - 1, pool.handIn(next));
            } else {
                CHECK.thrown("none in the next month", IllegalStateException.class, pool, p -> p.handIn(next));
            }
        }
    }

    /** "GONE: no reports, damages, or bookings are told of it any more; its life, and the damages that it has, stay." */
    private static void goneIsGone() {
        BoxPool pool = poolOfLeased(3);
        pool.damage(0, 2, 4);
        pool.damage(1, 2, 3);
        pool.handIn(0);
        pool.handIn(1);
        for (int box = 0; box < 2; box++) {
            int gone = box;
            CHECK.thrown("report", IllegalStateException.class, pool, p -> p.report(gone, 0, OUT, 4));
            CHECK.thrown("damage", IllegalStateException.class, pool, p -> p.damage(gone, 0, 9));
            CHECK.thrown("mend", IllegalStateException.class, pool, p -> p.mend(gone));
            CHECK.thrown("wash", IllegalStateException.class, pool, p -> p.wash(gone, 9));
            CHECK.thrown("lease", IllegalStateException.class, pool, p -> p.lease(gone, 0, 9));
            CHECK.thrown("handIn", IllegalStateException.class, pool, p -> p.handIn(gone));
            CHECK.same("its life", 4, pool.place(box, 0));
            CHECK.same("its days", 401, pool.days(box, 0, 400, 4));
            CHECK.same("GONE", 1, pool.boxIs(box, 2));
        }
        CHECK.same("its damage", 120, pool.boxIs(0, 5));
        pool.standard(2, 2);
        CHECK.same("its wear, by another standard", 90, pool.boxIs(1, 5));
        pool.standard(2, 20);
        pool.book(4, 0, 9);
        CHECK.same("neither serves, though sound", 2, pool.serve());
        CHECK.same("not given", -1, pool.boxIs(0, 4));
        CHECK.same("the other one is", 0, pool.boxIs(2, 4));
        pool.pass(60);
        CHECK.thrown("handIn in another month", IllegalStateException.class, pool, p -> p.handIn(0));
    }

    private static void tenLeasesEnd() {
        BoxPool pool = new BoxPool();
        pool.box(0, 0, 9999);
        pool.report(0, 0, IN, 1);
        for (int i = 0; i < 10; i++) {
            pool.lease(0, i, 100);
        }
        pool.pass(20);
        CHECK.same("handed in with ten leases", 1, pool.handIn(0));
        CHECK.same("the first was", LINE, pool.payer(0, 0));
        CHECK.same("all were", LINE, pool.payer(0, 20));
        CHECK.same("all ended", OWNER, pool.payer(0, 21));
    }

    private static void handInsRefused() {
        Check.Use ahead = p -> {
            p.box(0, -1, 50);
            p.box(0, 0, 50);
            p.report(0, 0, IN, 1);
            p.report(1, 0, IN, 1);
            p.pass(6);
        };
        Check.Use leased = p -> {
            ahead.on(p);
            p.lease(1, 0, 6);
        };
        CHECK.noSuch("handIn of no box", leased, p -> p.handIn(2));
        CHECK.noSuch("handIn of box -1", leased, p -> p.handIn(-1));
        CHECK.notNow("handIn of the line's own", leased, p -> p.handIn(0));
        CHECK.notNow("handIn without lease", ahead, p -> p.handIn(1));
        CHECK.notNow("handIn of a lease that ended", p -> {
            ahead.on(p);
            p.lease(1, 0, 5);
        }, p -> p.handIn(1));
        CHECK.notNow("handIn of a lease to come", p -> {
            ahead.on(p);
            p.lease(1, 7, 9);
        }, p -> p.handIn(1));
        CHECK.notNow("handIn on the road", p -> {
            leased.on(p);
            p.report(1, 6, OUT, 1);
        }, p -> p.handIn(1));
        CHECK.notNow("handIn on a ship", p -> {
            leased.on(p);
            p.report(1, 3, LOAD, 1);
        }, p -> p.handIn(1));
        CHECK.notNow("handIn from nowhere", p -> {
            leased.on(p);
            p.box(0, 0, 50);
            p.lease(2, 0, 9);
        }, p -> p.handIn(2));
        CHECK.notNow("handIn of a given one", p -> {
            leased.on(p);
            p.book(1, 0, 2);
            p.serve();
        }, p -> p.handIn(1));
        CHECK.notNow("handIn with no quota", p -> {
            leased.on(p);
            p.quota(0, 1, 0);
        }, p -> p.handIn(1));
        CHECK.notNow("handIn of a GONE one", p -> {
            leased.on(p);
            p.handIn(1);
        }, p -> p.handIn(1));
    }
}
