/** Promises 14 to 17: damage, standard, limit, mend. */
public final class DamagesTest {
    private static final Check CHECK = new Check("DamagesTest");

    public static void main(String[] args) {
        damages();
        damagesRefused();
        twelveDamages();
        standards();
        wearToTheEnd();
        limits();
        limitsToTheEnd();
        mends();
        wearIsGoneWithMends();
        mendsRefused();
        CHECK.finish();
    }

    private static void damages() {
        BoxPool pool = new BoxPool();
        pool.box(0, -1, 0);
        pool.box(0, -1, 0);
        CHECK.same("wear", 0, pool.damage(0, 2, 3));
        CHECK.same("a damage", 120, pool.damage(0, 2, 4));
        CHECK.same("of code 0", 120 + 200, pool.damage(0, 0, 20));
        CHECK.same("of code 4", 320 + 1000, pool.damage(0, 4, 20));
        CHECK.same("the same again", 1320 + 1000, pool.damage(0, 4, 20));
        CHECK.same("wear again", 2320, pool.damage(0, 1, 1));
        CHECK.same("what it costs", 2320, pool.boxIs(0, 5));
        CHECK.same("another box", 40, pool.damage(1, 0, 4));
    }

    private static void damagesRefused() {
        Check.Use ahead = p -> {
            p.box(0, 1, 50);
            p.damage(0, 1, 2);
            p.damage(0, 1, 8);
        };
        Check.Use gone = p -> {
            ahead.on(p);
            p.report(0, 0, 0, 0);
            p.lease(0, 0, 5);
            p.handIn(0);
        };
        Check.Use twelve = p -> {
            ahead.on(p);
            for (int i = 0; i < 10; i++) {
                p.damage(0, i % 5, 1);
            }
        };
        CHECK.noSuch("damage of no box", ahead, p -> p.damage(1, 0, 5));
        CHECK.noSuch("damage of box -1", ahead, p -> p.damage(-1, 0, 5));
        CHECK.noSuch("damage of code 5", ahead, p -> p.damage(0, 5, 5));
        CHECK.noSuch("damage of code -1 comes first", ahead, p -> p.damage(0, -1, 0));
        CHECK.outOfRange("damage of size 0", ahead, p -> p.damage(0, 0, 0));
        CHECK.outOfRange("damage of size 21", ahead, p -> p.damage(0, 0, 21));
        CHECK.notNow("damage of a GONE one", gone, p -> p.damage(0, 0, 5));
        CHECK.noSuch("damage of a GONE one of no code", gone, p -> p.damage(0, 5, 5));
        CHECK.outOfRange("damage of a GONE one of no size", gone, p -> p.damage(0, 0, 21));
        CHECK.notNow("damage 13", twelve, p -> p.damage(0, 0, 5));
        BoxPool pool = new BoxPool();
        twelve.on(pool);
        pool.mend(0);
        CHECK.same("a mended one has room", 50, pool.damage(0, 0, 5));
        for (int i = 0; i < 11; i++) {
            pool.damage(0, 0, 5);
        }
        CHECK.same("twelve of them", 600, pool.boxIs(0, 5));
        CHECK.thrown("damage 13 again", IllegalStateException.class, pool, p -> p.damage(0, 0, 1));
    }

    /** "Or has 12": wear with them, and the dearest twelve cost 12000 together. */
    private static void twelveDamages() {
        BoxPool pool = new BoxPool();
        pool.box(0, -1, 0);
        pool.box(0, -1, 0);
        for (int i = 1; i <= 12; i++) {
            CHECK.same("damage " + i, 1000 * i, pool.damage(0, 4, 20));
            CHECK.same("wear " + i, 0, pool.damage(1, i % 5, 3));
        }
        CHECK.thrown("damage 13", IllegalStateException.class, pool, p -> p.damage(0, 0, 1));
        CHECK.thrown("wear 13", IllegalStateException.class, pool, p -> p.damage(1, 0, 3));
        CHECK.same("what all twelve cost", 12000, pool.boxIs(0, 5));
        pool.standard(2, 2);
        CHECK.same("three of code 2 are no wear then", 3 * 90, pool.boxIs(1, 5));
        pool.mend(1);
        CHECK.same("mended: wear that stayed told is no more", 0, pool.boxIs(1, 5));
        for (int i = 1; i <= 12; i++) {
            CHECK.same("damage again " + i, 40 * i, pool.damage(1, 0, 4));
        }
        CHECK.thrown("damage 13 again", IllegalStateException.class, pool, p -> p.damage(1, 0, 4));
    }

    private static void standards() {
        BoxPool pool = new BoxPool();
        pool.box(0, -1, 0);
        for (int code = 0; code < 5; code++) {
            pool.damage(0, code, 3 + code);
        }
        CHECK.same("3 is wear", 80 + 150 + 240 + 350, pool.boxIs(0, 5));
        CHECK.same("standard at first", 3, pool.standard(1, 4));
        CHECK.same("4 of code 1 is wear", 150 + 240 + 350, pool.boxIs(0, 5));
        CHECK.same("standard before", 4, pool.standard(1, 0));
        CHECK.same("it counts again", 80 + 150 + 240 + 350, pool.boxIs(0, 5));
        CHECK.same("standard 0", 3, pool.standard(0, 0));
        CHECK.same("all count", 30 + 80 + 150 + 240 + 350, pool.boxIs(0, 5));
        CHECK.same("standard 20", 3, pool.standard(4, 20));
        CHECK.same("the greatest before", 20, pool.standard(4, 20));
        pool.damage(0, 4, 20);
        CHECK.same("20 is wear too", 30 + 80 + 150 + 240, pool.boxIs(0, 5));
        Check.Use ahead = p -> p.standard(0, 7);
        CHECK.noSuch("standard of code 5", ahead, p -> p.standard(5, 0));
        CHECK.noSuch("standard of code -1 comes first", ahead, p -> p.standard(-1, -1));
        CHECK.outOfRange("standard 21", ahead, p -> p.standard(0, 21));
        CHECK.outOfRange("standard -1", ahead, p -> p.standard(0, -1));
    }

    /** "A damage that is not greater than that, by the standard as it is, is wear": each size under each standard. */
    private static void wearToTheEnd() {
        for (int code = 0; code < 5; code++) {
            for (int standard = 0; standard <= 20; standard++) {
                BoxPool pool = new BoxPool();
                pool.standard(code, standard);
                for (int size = 1; size <= 20; size++) {
                    int cost = size > standard ? size * (code + 1) * 10 : 0;
                    int box = pool.box(0, -1, 0);
                    CHECK.same("code " + code + ", standard " + standard + ", size " + size, cost,
                        pool.damage(box, code, size));
                }
                pool.standard(code, 20);
                CHECK.same("all is wear", 0, pool.boxIs(19, 5));
                pool.standard(code, 0);
                CHECK.same("all counts", 200 * (code + 1), pool.boxIs(19, 5));
                CHECK.same("the least counts", 10 * (code + 1), pool.boxIs(0, 5));
            }
        }
    }

    private static void limits() {
        BoxPool pool = new BoxPool();
        CHECK.same("limit at first", 500, pool.limit(0));
        CHECK.same("the least limit", 0, pool.limit(9999));
        CHECK.same("the greatest limit", 9999, pool.limit(1));
        Check.Use ahead = p -> p.limit(7);
        CHECK.outOfRange("limit -1", ahead, p -> p.limit(-1));
        CHECK.outOfRange("limit 10000", ahead, p -> p.limit(10000));
    }

    /** "Cost more than the limit, together": wear does not, and what costs as much as the limit is mended. */
    private static void limitsToTheEnd() {
        BoxPool pool = new BoxPool();
        pool.box(0, -1, 0);
        pool.damage(0, 4, 3);
        pool.damage(0, 0, 4);
        pool.damage(0, 1, 4);
        pool.limit(0);
        CHECK.thrown("limit 0", IllegalStateException.class, pool, p -> p.mend(0));
        pool.limit(119);
        CHECK.thrown("limit 119", IllegalStateException.class, pool, p -> p.mend(0));
        pool.limit(120);
        CHECK.same("limit 120", 120, pool.mend(0));
        pool.limit(9999);
        for (int i = 0; i < 9; i++) {
            pool.damage(0, 4, 20);
        }
        pool.damage(0, 0, 20);
        pool.damage(0, 3, 20);
        CHECK.thrown("limit 9999, and 10000", IllegalStateException.class, pool, p -> p.mend(0));
        pool.standard(0, 20);
        CHECK.same("the limit counts no wear", 9800, pool.mend(0));
        pool.damage(0, 1, 4);
        pool.limit(79);
        CHECK.thrown("limit 79", IllegalStateException.class, pool, p -> p.mend(0));
        pool.limit(80);
        CHECK.same("limit 80", 80, pool.mend(0));
    }

    private static void mends() {
        BoxPool pool = new BoxPool();
        pool.box(0, -1, 9);
        pool.report(0, 0, 0, 0);
        pool.damage(0, 0, 3);
        pool.damage(0, 4, 10);
        pool.book(0, 0, 1);
        CHECK.same("a damaged one serves nothing", 0, pool.serve());
        CHECK.same("mended at the limit", 500, pool.mend(0));
        CHECK.same("no damages", 0, pool.boxIs(0, 5));
        pool.standard(0, 0);
        CHECK.same("wear neither", 0, pool.boxIs(0, 5));
        CHECK.same("a mended one serves", 1, pool.serve());
        pool.damage(0, 0, 1);
        CHECK.same("a given one is mended too", 10, pool.mend(0));
        CHECK.same("and stays given", 0, pool.boxIs(0, 4));
    }

    /** "A mended box has no damages, wear neither"; one that has no more than wear is not mended. */
    private static void wearIsGoneWithMends() {
        BoxPool pool = new BoxPool();
        pool.box(0, -1, 0);
        for (int i = 0; i < 11; i++) {
            pool.damage(0, 0, 3);
        }
        CHECK.thrown("wear alone", IllegalStateException.class, pool, p -> p.mend(0));
        CHECK.same("one more that counts", 40, pool.damage(0, 0, 4));
        CHECK.same("costs alone", 40, pool.mend(0));
        CHECK.thrown("mended twice", IllegalStateException.class, pool, p -> p.mend(0));
        pool.standard(0, 0);
        CHECK.same("no wear is left to cost", 0, pool.boxIs(0, 5));
        CHECK.thrown("nor to mend", IllegalStateException.class, pool, p -> p.mend(0));
        CHECK.same("what is told then is all", 10, pool.damage(0, 0, 1));
    }

    private static void mendsRefused() {
        Check.Use ahead = p -> {
            p.box(0, 1, 50);
            p.damage(0, 4, 10);
        };
        Check.Use wear = p -> {
            p.box(0, 1, 50);
            p.damage(0, 4, 3);
        };
        Check.Use gone = p -> {
            ahead.on(p);
            p.report(0, 0, 0, 0);
            p.lease(0, 0, 5);
            p.handIn(0);
        };
        CHECK.noSuch("mend of no box", ahead, p -> p.mend(1));
        CHECK.noSuch("mend of box -1", ahead, p -> p.mend(-1));
        CHECK.notNow("mend of a sound one", p -> p.box(0, -1, 0), p -> p.mend(0));
        CHECK.notNow("mend of wear", wear, p -> p.mend(0));
        CHECK.notNow("mend of a GONE one", gone, p -> p.mend(0));
        CHECK.notNow("mend above the limit", p -> {
            ahead.on(p);
            p.limit(499);
        }, p -> p.mend(0));
        CHECK.notNow("mend together above the limit", p -> {
            ahead.on(p);
            p.damage(0, 0, 4);
        }, p -> p.mend(0));
        BoxPool pool = new BoxPool();
        wear.on(pool);
        pool.standard(4, 2);
        CHECK.same("wear is a damage by another standard", 150, pool.mend(0));
    }
}
