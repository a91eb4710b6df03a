/**
 * Ways of learning all that an object keeps, also what only shows when more is told. Each is used on an object of its
 * own, and makes some 360 calls at most, so that the calls ahead of it find room below 512.
 */
enum Probe {
    ASKED((pool, told) -> {
        told.add(40 * 8, i -> pool.boxIs(i / 8, i % 8));
        told.add(20, booking -> pool.lacks(booking));
        told.add(3, kind -> pool.bring(kind));
        told.add(3 * 5, i -> pool.brings(i / 5, i % 5));
    }),
    PLACES((pool, told) -> {
        told.add(3 * 120, i -> pool.place(i / 120, i % 120));
    }),
    PAYERS((pool, told) -> {
        told.add(3 * 120, i -> pool.payer(i / 120, i % 120));
    }),
    /** What was set is learnt by setting it anew; with the standards at 0 then, wear costs too. */
    SETTINGS((pool, told) -> {
        told.add(6 * 6, i -> pool.cost(i / 6, i % 6, 0));
        told.add(3 * 6, i -> pool.quota(i / 6, i % 6, 0));
        told.add(1, i -> pool.free(0));
        told.add(1, i -> pool.limit(0));
        told.add(5, code -> pool.standard(code, 0));
        told.add(40, box -> pool.boxIs(box, 5));
    }),
    /** How many more boxes, bookings, damages and leases there can be. */
    ROOM((pool, told) -> {
        told.add(41, i -> pool.box(0, -1, 0));
        told.add(21, i -> pool.book(0, 0, 1));
        told.add(2 * 13, i -> pool.damage(i / 13, 0, 1));
        told.add(2 * 11, i -> lease(pool, i / 11, 9999));
    }),
    /** Which reports are known already, and how many more there can be. */
    REPORTS((pool, told) -> {
        told.add(1, i -> pool.pass(1));
        told.add(2 * 11 * 4, i -> pool.report(i / 44, i / 4 % 11, i % 4, 1));
        told.add(2 * 11 * 4, i -> pool.report(i / 44, i / 4 % 11, i % 4, 2));
    }),
    /** How many more boxes can be handed in where they are, and of lessor 0 at port 1. */
    HANDED((pool, told) -> {
        told.add(12, i -> pool.box(0, 0, 0));
        told.add(40, box -> lease(pool, box, 0));
        told.add(40, box -> pool.report(box, 0, BoxPool.IN, 1));
        told.add(40, box -> pool.handIn(box));
    }),
    SERVED_TODAY((pool, told) -> serve(pool, told)),
    SERVED_TOMORROW((pool, told) -> {
        told.add(1, i -> pool.pass(1));
        serve(pool, told);
    }),
    /** The boxes of the tests have their certificates up to day 50, if they are to serve. */
    SERVED_ON_DAY_50((pool, told) -> {
        told.add(1, i -> passTo(pool, 50));
        serve(pool, told);
    }),
    SERVED_ON_DAY_51((pool, told) -> {
        told.add(1, i -> passTo(pool, 51));
        serve(pool, told);
    });

    private interface Way {
        void ask(BoxPool pool, Answers told);
    }

    private interface Call {
        long of(int number);
    }

    /** The answers of calls, those that throw with them. */
    private static final class Answers {
        private final StringBuilder all = new StringBuilder();

        void add(int calls, Call call) {
            for (int i = 0; i < calls; i++) {
                try {
                    all.append(call.of(i)).append(' ');
                } catch (RuntimeException e) {
                    all.append(e.getClass().getSimpleName(), 0, 9).append(' ');
                }
            }
        }
    }

    private final Way way;

    Probe(Way way) {
        this.way = way;
    }

    String of(BoxPool pool) {
        Answers told = new Answers();
        way.ask(pool, told);
        return told.all.toString();
    }

    private static int lease(BoxPool pool, int box, int from) {
        pool.lease(box, from, 9999);
        return 0;
    }

    private static int passTo(BoxPool pool, int day) {
        int now = pool.pass(1);
        return now < day ? pool.pass(day - now) : now;
    }

    /** Whatever can serve is given, and then given no more. */
    private static void serve(BoxPool pool, Answers told) {
        told.add(3 * 6, i -> pool.book(i % 6, i / 6, 9));
        told.add(1, i -> pool.serve());
        told.add(40, box -> pool.boxIs(box, 4));
        told.add(20, booking -> pool.end(booking));
        told.add(40, box -> pool.boxIs(box, 3));
    }
}
