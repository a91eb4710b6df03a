/** Promises 18 to 20, 23 and 24: book, serve, end, boxIs, lacks. */
public final class BookingsTest {
    private static final Check CHECK = new Check("BookingsTest");
    private static final int IN = 0, OUT = 1;

    public static void main(String[] args) {
        books();
        booksRefused();
        servesByNumbers();
        servesUpwards();
        servesWhoCan();
        servesAgain();
        servesEachKind();
        servesNine();
        servesOnTheLastDayOfTheCertificate();
        twentyBookings();
        ends();
        overIsOver();
        endsRefused();
        boxIs();
        boxIsRefused();
        lacks();
        CHECK.finish();
    }

    /** A pool with boxes of these kinds at port 3. */
    private static BoxPool poolOf(int... kinds) {
        BoxPool pool = new BoxPool();
        for (int box = 0; box < kinds.length; box++) {
            pool.box(kinds[box], -1, 100);
            pool.report(box, 0, IN, 3);
        }
        return pool;
    }

    private static String bookingsOf(BoxPool pool, int boxes) {
        StringBuilder all = new StringBuilder();
        for (int box = 0; box < boxes; box++) {
            all.append(pool.boxIs(box, 4)).append(' ');
        }
        return all.toString();
    }

    private static void books() {
        BoxPool pool = new BoxPool();
        for (int i = 0; i < 20; i++) {
            CHECK.same("booking number", i, pool.book(i % 6, i % 3, i % 9 + 1));
            if (i == 4) {
                pool.end(4);
            }
        }
        CHECK.same("one box", 1, pool.lacks(0));
        CHECK.same("nine boxes", 9, pool.lacks(8));
        CHECK.thrown("booking 21, though one is over", IllegalStateException.class, pool, p -> p.book(0, 0, 1));
    }

    private static void booksRefused() {
        Check.Use ahead = p -> p.book(1, 1, 1);
        Check.Use full = p -> {
            for (int i = 0; i < 20; i++) {
                p.book(i % 6, i % 3, 1);
            }
        };
        CHECK.noSuch("book at port 6", ahead, p -> p.book(6, 0, 1));
        CHECK.noSuch("book at port -1", ahead, p -> p.book(-1, 0, 1));
        CHECK.noSuch("book at no port comes first", ahead, p -> p.book(6, 3, 0));
        CHECK.outOfRange("book of kind 3", ahead, p -> p.book(0, 3, 1));
        CHECK.outOfRange("book of kind -1", ahead, p -> p.book(0, -1, 1));
        CHECK.outOfRange("book of 0 boxes", ahead, p -> p.book(0, 0, 0));
        CHECK.outOfRange("book of 10 boxes", ahead, p -> p.book(0, 0, 10));
        CHECK.notNow("booking 21", full, p -> p.book(0, 0, 1));
        CHECK.noSuch("booking 21 at no port", full, p -> p.book(6, 0, 1));
        CHECK.outOfRange("booking 21 of no kind", full, p -> p.book(0, 3, 1));
    }

    private static void servesByNumbers() {
        BoxPool pool = poolOf(0, 0, 0, 0, 0);
        pool.book(3, 0, 2);
        pool.book(2, 0, 2);
        pool.book(3, 0, 9);
        CHECK.same("served", 5, pool.serve());
        CHECK.same("by rising numbers", "0 0 2 2 2 ", bookingsOf(pool, 5));
        CHECK.same("the first lacks", 0, pool.lacks(0));
        CHECK.same("elsewhere lacks", 2, pool.lacks(1));
        CHECK.same("the last lacks", 6, pool.lacks(2));
        CHECK.same("served again", 0, pool.serve());
    }

    private static void servesUpwards() {
        BoxPool pool = poolOf(2, 1, 0, 1, 2, 0);
        pool.book(3, 0, 4);
        pool.book(3, 1, 9);
        CHECK.same("served", 6, pool.serve());
        CHECK.same("its own kind first, then the next", "1 0 0 0 1 0 ", bookingsOf(pool, 6));
        BoxPool other = poolOf(0, 1, 2);
        other.book(3, 2, 2);
        other.book(3, 1, 2);
        CHECK.same("never downwards", 2, other.serve());
        CHECK.same("of kinds 2 and 1", "-1 1 0 ", bookingsOf(other, 3));
        BoxPool early = poolOf(1, 2);
        early.book(3, 0, 1);
        early.book(3, 1, 1);
        CHECK.same("an earlier one takes what a later one would have", 2, early.serve());
        CHECK.same("upwards", "0 1 ", bookingsOf(early, 2));
    }

    private static void servesWhoCan() {
        BoxPool pool = new BoxPool();
        for (int box = 0; box < 8; box++) {
            pool.box(0, 1, box == 1 ? 9 : 10);
        }
        pool.lease(2, 0, 99);
        pool.pass(10);
        for (int box = 0; box < 7; box++) {
            pool.report(box, 5, IN, box == 6 ? 2 : 3);
        }
        pool.handIn(2);
        pool.damage(3, 0, 4);
        pool.damage(4, 0, 3);
        pool.report(5, 10, OUT, 3);
        pool.book(3, 0, 9);
        CHECK.same("served by who can", 2, pool.serve());
        CHECK.same("one certified today, one with wear", "0 -1 -1 -1 0 -1 -1 -1 ", bookingsOf(pool, 8));
        pool.wash(1, 10);
        pool.mend(3);
        pool.report(5, 10, IN, 3);
        pool.report(6, 6, OUT, 2);
        pool.report(6, 7, IN, 3);
        CHECK.same("served by who can then", 4, pool.serve());
        CHECK.same("all but the GONE and the one nowhere", "0 0 -1 0 0 0 0 -1 ", bookingsOf(pool, 8));
    }

    private static void servesAgain() {
        BoxPool pool = poolOf(0, 0);
        pool.book(3, 0, 1);
        pool.serve();
        pool.report(0, 0, OUT, 3);
        pool.damage(0, 0, 20);
        CHECK.same("a given one stays given wherever it goes", 0, pool.serve());
        CHECK.same("it lacks nothing", 0, pool.lacks(0));
        CHECK.same("given", 0, pool.boxIs(0, 4));
        pool.book(3, 0, 2);
        CHECK.same("what is left", 1, pool.serve());
        CHECK.same("one booking each", "0 1 ", bookingsOf(pool, 2));
    }

    /** "And is of the kind, or a greater one", "of its own kind first, then of the next one". */
    private static void servesEachKind() {
        for (int kind = 0; kind < 3; kind++) {
            for (int booked = 0; booked < 3; booked++) {
                BoxPool pool = poolOf(kind);
                pool.book(3, booked, 1);
                CHECK.same("kind " + kind + " for " + booked, kind >= booked ? 1 : 0, pool.serve());
            }
        }
        BoxPool pool = poolOf(2, 2, 1, 1, 0, 0);
        for (int i = 0; i < 6; i++) {
            pool.book(3, 0, 1);
        }
        CHECK.same("all are served", 6, pool.serve());
        CHECK.same("0, then 1, then 2, of each the lower first", "4 5 2 3 0 1 ", bookingsOf(pool, 6));
    }

    /** "boxes: 1 to 9": nine are given where there are ten, and what is lacking is made up later. */
    private static void servesNine() {
        BoxPool pool = poolOf(0, 0, 0, 0, 0, 0, 0, 0);
        pool.book(3, 0, 9);
        CHECK.same("eight of nine", 8, pool.serve());
        CHECK.same("one lacks", 1, pool.lacks(0));
        for (int box = 8; box < 10; box++) {
            pool.box(0, -1, 100);
            pool.report(box, 0, IN, 3);
        }
        CHECK.same("the ninth", 1, pool.serve());
        CHECK.same("not the tenth", "0 0 0 0 0 0 0 0 0 -1 ", bookingsOf(pool, 10));
        CHECK.same("none lacks", 0, pool.lacks(0));
        CHECK.same("no more", 0, pool.serve());
        CHECK.same("it had nine", 9, pool.end(0));
    }

    /** "Certified today": on the last day of its certificate still; "at that port today": not yesterday. */
    private static void servesOnTheLastDayOfTheCertificate() {
        for (int until = 9; until <= 11; until++) {
            BoxPool pool = new BoxPool();
            pool.box(0, -1, until);
            pool.box(0, -1, 0);
            pool.report(0, 0, IN, 3);
            pool.report(1, 0, IN, 3);
            pool.pass(10);
            pool.wash(1, until);
            pool.book(3, 0, 2);
            CHECK.same("certified up to " + until, until >= 10 ? 2 : 0, pool.serve());
        }
        BoxPool pool = poolOf(0, 0);
        pool.pass(1);
        pool.report(0, 1, OUT, 3);
        pool.book(3, 0, 2);
        CHECK.same("one left today", 1, pool.serve());
        CHECK.same("the other one is given", "-1 0 ", bookingsOf(pool, 2));
    }

    /** "If there are 20", those that are over with them; the last one is served as the first. */
    private static void twentyBookings() {
        BoxPool pool = poolOf(0, 0);
        for (int i = 0; i < 20; i++) {
            pool.book(i == 19 ? 3 : 2, 0, 2);
        }
        CHECK.same("served", 2, pool.serve());
        CHECK.same("the last one", "19 19 ", bookingsOf(pool, 2));
        CHECK.same("lacks nothing", 0, pool.lacks(19));
        CHECK.same("the one ahead lacks two", 2, pool.lacks(18));
        CHECK.same("it had two", 2, pool.end(19));
        for (int i = 0; i < 19; i++) {
            CHECK.same("it had none", 0, pool.end(i));
        }
        CHECK.thrown("the next one, though all are over", IllegalStateException.class, pool, p -> p.book(0, 0, 1));
        CHECK.thrown("lacks of it", IndexOutOfBoundsException.class, pool, p -> p.lacks(20));
        CHECK.thrown("end of it", IndexOutOfBoundsException.class, pool, p -> p.end(20));
    }

    /** "A box is given, till the booking is over; then it is dirty", wherever it is by then, and whatever was told of it. */
    private static void overIsOver() {
        BoxPool pool = poolOf(0, 0, 0);
        pool.book(3, 0, 2);
        pool.serve();
        pool.report(0, 0, OUT, 3);
        pool.damage(1, 0, 9);
        pool.pass(200);
        CHECK.same("given still", "0 0 -1 ", bookingsOf(pool, 3));
        CHECK.same("not dirty ahead of it", 0, pool.boxIs(0, 3) + pool.boxIs(1, 3));
        CHECK.same("it had two, one off and one damaged", 2, pool.end(0));
        CHECK.same("given no more", "-1 -1 -1 ", bookingsOf(pool, 3));
        CHECK.same("both are dirty", 2, pool.boxIs(0, 3) + pool.boxIs(1, 3));
        CHECK.same("what was not given is not", 0, pool.boxIs(2, 3));
        CHECK.thrown("over", IllegalStateException.class, pool, p -> p.end(0));
        CHECK.same("over lacks nothing", 0, pool.lacks(0));
        pool.book(3, 0, 3);
        pool.wash(0, 300);
        pool.wash(1, 300);
        pool.wash(2, 300);
        CHECK.same("the washed one that is sound and there", 1, pool.serve());
        CHECK.same("given to the new one", "-1 -1 1 ", bookingsOf(pool, 3));
    }

    private static void ends() {
        BoxPool pool = poolOf(0, 0, 0);
        pool.book(3, 0, 2);
        pool.book(3, 0, 3);
        pool.serve();
        CHECK.same("it had two", 2, pool.end(0));
        CHECK.same("given no more", "-1 -1 1 ", bookingsOf(pool, 3));
        CHECK.same("dirty", 1, pool.boxIs(0, 3));
        CHECK.same("dirty too", 1, pool.boxIs(1, 3));
        CHECK.same("not of the other", 0, pool.boxIs(2, 3));
        CHECK.same("dirty ones serve nothing", 0, pool.serve());
        CHECK.same("over, it lacks nothing", 0, pool.lacks(0));
        pool.wash(0, 100);
        pool.wash(1, 100);
        CHECK.same("washed ones serve the other", 2, pool.serve());
        CHECK.same("all of one", "1 1 1 ", bookingsOf(pool, 3));
        pool.book(5, 2, 4);
        CHECK.same("it had none", 0, pool.end(2));
        CHECK.same("over without any", 0, pool.lacks(2));
        CHECK.same("it had three", 3, pool.end(1));
        pool.wash(0, 100);
        CHECK.same("none are served that are over", 0, pool.serve());
    }

    private static void endsRefused() {
        Check.Use ahead = p -> {
            p.box(0, -1, 100);
            p.report(0, 0, IN, 3);
            p.book(3, 0, 1);
            p.serve();
        };
        Check.Use over = p -> {
            ahead.on(p);
            p.end(0);
            p.wash(0, 5);
        };
        CHECK.noSuch("end of no booking", ahead, p -> p.end(1));
        CHECK.noSuch("end of booking -1", ahead, p -> p.end(-1));
        CHECK.noSuch("end of booking 20", ahead, p -> p.end(20));
        CHECK.notNow("end of one that is over", over, p -> p.end(0));
    }

    private static void boxIs() {
        BoxPool pool = new BoxPool();
        pool.box(2, 1, 7);
        pool.box(0, 1, 7);
        pool.report(0, 0, IN, 3);
        pool.report(0, 0, IN, 4);
        pool.report(1, 0, IN, 3);
        pool.lease(0, 0, 1);
        pool.lease(1, 0, 1);
        pool.damage(0, 3, 5);
        pool.book(3, 0, 1);
        pool.serve();
        pool.handIn(0);
        int[] first = {2, 1, 1, 0, -1, 200, 1, 1};
        int[] second = {0, 1, 0, 0, 0, 0, 0, 1};
        for (int what = 0; what < 8; what++) {
            CHECK.same("boxIs " + what, first[what], pool.boxIs(0, what));
            CHECK.same("boxIs " + what + " of the second", second[what], pool.boxIs(1, what));
        }
        pool.end(0);
        pool.pass(2);
        CHECK.same("its booking, over", -1, pool.boxIs(1, 4));
        CHECK.same("dirty", 1, pool.boxIs(1, 3));
        CHECK.same("on lease no more", 0, pool.boxIs(1, 7));
    }

    private static void boxIsRefused() {
        Check.Use ahead = p -> p.box(2, 1, 7);
        CHECK.noSuch("boxIs of no box", ahead, p -> p.boxIs(1, 0));
        CHECK.noSuch("boxIs of box -1", ahead, p -> p.boxIs(-1, 0));
        CHECK.noSuch("boxIs of box 40 comes first", ahead, p -> p.boxIs(40, 8));
        CHECK.outOfRange("boxIs 8", ahead, p -> p.boxIs(0, 8));
        CHECK.outOfRange("boxIs -1", ahead, p -> p.boxIs(0, -1));
    }

    private static void lacks() {
        BoxPool pool = poolOf(0, 0);
        pool.book(3, 0, 3);
        CHECK.same("lacks all", 3, pool.lacks(0));
        pool.serve();
        CHECK.same("lacks one", 1, pool.lacks(0));
        pool.end(0);
        CHECK.same("is over", 0, pool.lacks(0));
        Check.Use ahead = p -> p.book(3, 0, 3);
        CHECK.noSuch("lacks of no booking", ahead, p -> p.lacks(1));
        CHECK.noSuch("lacks of booking -1", ahead, p -> p.lacks(-1));
        CHECK.noSuch("lacks of booking 20", ahead, p -> p.lacks(20));
    }
}
