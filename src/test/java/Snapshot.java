/** All that can be asked of an object, in a few hundred calls; settings are told anew to learn what they were. */
final class Snapshot {
    private static final int MOST_BOXES = 6;
    private static final int MOST_BOOKINGS = 20;
    private static final int[] DAYS = {0, 3, 10, 40, 9999};

    private Snapshot() {
    }

    static String of(BoxPool pool) {
        StringBuilder seen = new StringBuilder();
        bookings(pool, seen);
        boxes(pool, seen);
        settings(pool, seen);
        wear(pool, seen);
        ends(pool, seen);
        return seen.toString();
    }

    private static void bookings(BoxPool pool, StringBuilder seen) {
        seen.append(" lacks");
        try {
            for (int booking = 0; booking < MOST_BOOKINGS; booking++) {
                seen.append(' ').append(pool.lacks(booking));
            }
        } catch (IndexOutOfBoundsException e) {
            seen.append(" end");
        }
        for (int kind = 0; kind < 3; kind++) {
            try {
                seen.append(" bring").append(kind).append(' ').append(pool.bring(kind));
                for (int unit = 0; unit < 5; unit++) {
                    seen.append(' ').append(pool.brings(kind, unit));
                }
            } catch (IllegalStateException e) {
                seen.append(" many");
            }
        }
    }

    private static void boxes(BoxPool pool, StringBuilder seen) {
        try {
            for (int box = 0; box < MOST_BOXES; box++) {
                seen.append(" box").append(box);
                for (int what = 0; what < 8; what++) {
                    seen.append(' ').append(pool.boxIs(box, what));
                }
                for (int day : DAYS) {
                    seen.append(' ').append(pool.place(box, day)).append('p').append(pool.payer(box, day));
                }
            }
        } catch (IndexOutOfBoundsException e) {
            seen.append(" end");
        }
        for (int port = 0; port < 6; port++) {
            seen.append(" count ").append(pool.count(port, -1, 9999));
        }
    }

    private static void settings(BoxPool pool, StringBuilder seen) {
        seen.append(" cost");
        for (int from = 0; from < 6; from++) {
            for (int to = 0; to < 6; to++) {
                if (from != to) {
                    seen.append(' ').append(pool.cost(from, to, 0));
                }
            }
        }
        seen.append(" quota");
        for (int lessor = 0; lessor < 3; lessor++) {
            for (int port = 0; port < 6; port++) {
                seen.append(' ').append(pool.quota(lessor, port, 0));
            }
        }
        seen.append(" free ").append(pool.free(0)).append(" limit ").append(pool.limit(0));
        seen.append(" standard");
        for (int code = 0; code < 5; code++) {
            seen.append(' ').append(pool.standard(code, 0));
        }
    }

    /** The standards are 0 by now, so each damage that is kept counts. */
    private static void wear(BoxPool pool, StringBuilder seen) {
        seen.append(" wear");
        try {
            for (int box = 0; box < MOST_BOXES; box++) {
                seen.append(' ').append(pool.boxIs(box, 5));
            }
        } catch (IndexOutOfBoundsException e) {
            seen.append(" end");
        }
    }

    private static void ends(BoxPool pool, StringBuilder seen) {
        seen.append(" serve ").append(pool.serve());
        seen.append(" wash");
        try {
            for (int box = 0; box < MOST_BOXES; box++) {
                seen.append(' ').append(pool.boxIs(box, 4));
            }
        } catch (IndexOutOfBoundsException e) {
            seen.append(" end");
        }
        try {
            seen.append(" next box ").append(pool.box(0, -1, 0));
        } catch (IllegalStateException e) {
            seen.append(" no box");
        }
        try {
            seen.append(" next booking ").append(pool.book(0, 0, 1));
        } catch (IllegalStateException e) {
            seen.append(" no booking");
        }
        try {
            seen.append(" next day ").append(pool.pass(1));
        } catch (IllegalStateException e) {
            seen.append(" no day");
        }
    }
}
