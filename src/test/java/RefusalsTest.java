import java.util.ArrayList;
import java.util.List;

/**
 * Each method with each argument on both sides of each edge of its range, alone and together with other wrong ones and
 * with each state in which it is refused: the exception that the document lists first is thrown, and nothing changes.
 */
public final class RefusalsTest {
    private static final Check CHECK = new Check("RefusalsTest");
    private static final Class<? extends RuntimeException> BOUNDS = IndexOutOfBoundsException.class;
    private static final Class<? extends RuntimeException> RANGE = IllegalArgumentException.class;
    private static final Class<? extends RuntimeException> STATE = IllegalStateException.class;
    private static final List<Class<? extends RuntimeException>> USUAL_ORDER = List.of(BOUNDS, RANGE, STATE);

    private static final Argument BOX = within(BOUNDS, 0, 1);
    private static final Argument BOOKING = within(BOUNDS, 0, 1);
    private static final Argument PORT = within(BOUNDS, 0, 5);
    private static final Argument LESSOR = within(BOUNDS, 0, 2);
    private static final Argument CODE = within(BOUNDS, 0, 4);
    private static final Argument KIND = within(RANGE, 0, 2);
    private static final Argument DAY = within(RANGE, 0, 9999);

    interface Call {
        void on(BoxPool pool, int... arguments);
    }

    /** Values of an argument at the edges of what is right, and wrong ones, with what is thrown for these. */
    private record Argument(Class<? extends RuntimeException> due, int[] right, int[] wrong) { }

    /** A method, with arguments that are right as things stand ahead, and states in which they are refused. */
    private static final class Face {
        final String name;
        final Call call;
        final int[] right;
        final List<Argument> arguments = new ArrayList<>();
        final List<String> stateNames = new ArrayList<>();
        final List<Check.Use> states = new ArrayList<>();
        List<Class<? extends RuntimeException>> order = USUAL_ORDER;

        Face(String name, Call call, int... right) {
            this.name = name;
            this.call = call;
            this.right = right;
        }

        Face takes(Argument... taken) {
            arguments.addAll(List.of(taken));
            return this;
        }

        Face refusedIf(String state, Check.Use told) {
            stateNames.add(state);
            states.add(told);
            return this;
        }
    }

    public static void main(String[] args) {
        for (Face face : faces()) {
            rightEdges(face);
            wrongOnes(face, 0, face.right.clone(), new ArrayList<>());
        }
        CHECK.finish();
    }

    private static List<Face> faces() {
        List<Face> all = new ArrayList<>();
        boxes(all);
        reports(all);
        leases(all);
        damages(all);
        bookings(all);
        return all;
    }

    private static void boxes(List<Face> all) {
        all.add(new Face("cost", (p, a) -> p.cost(a[0], a[1], a[2]), 2, 3, 7).takes(PORT, PORT, within(RANGE, 0, 9999)));
        all.add(new Face("box", (p, a) -> p.box(a[0], a[1], a[2]), 1, 1, 50)
            .takes(KIND, within(BOUNDS, -1, 2), DAY)
            .refusedIf("there are 40", p -> {
                for (int i = 2; i < 40; i++) {
                    p.box(0, -1, 50);
                }
            }));
        all.add(new Face("wash", (p, a) -> p.wash(a[0], a[1]), 0, 60).takes(BOX, DAY)
            .refusedIf("it is GONE", p -> p.handIn(0)));
        all.add(new Face("pass", (p, a) -> p.pass(a[0]), 5).takes(within(RANGE, 1, 400))
            .refusedIf("it would be 10000", p -> passTo(p, 9995))
            .refusedIf("it is the last day", p -> passTo(p, 9999)));
    }

    private static void reports(List<Face> all) {
        all.add(new Face("report", (p, a) -> p.report(a[0], a[1], a[2], a[3]), 0, 5, BoxPool.OUT, 1)
            .takes(BOX, within(RANGE, 0, 9), within(RANGE, 0, 3), PORT)
            .refusedIf("it is GONE", p -> p.handIn(0))
            .refusedIf("it is GONE and it is told twice", p -> {
                p.report(0, 5, BoxPool.OUT, 1);
                p.report(0, 6, BoxPool.IN, 1);
                p.handIn(0);
            })
            .refusedIf("it has 30", p -> fill(p, 1))
            .refusedIf("it has 30 and it is told twice", p -> {
                p.report(0, 5, BoxPool.OUT, 1);
                fill(p, 2);
            }));
        all.add(new Face("place", (p, a) -> p.place(a[0], a[1]), 0, 5).takes(BOX, DAY));
        all.add(new Face("count", (p, a) -> p.count(a[0], a[1], a[2]), 1, 1, 5).takes(PORT, within(RANGE, -1, 2), DAY));
        Argument place = new Argument(RANGE, new int[] {0, 5, 10, 11, 12},
            new int[] {-1, 6, 9, 13, Integer.MIN_VALUE, Integer.MAX_VALUE});
        all.add(new Face("days", (p, a) -> p.days(a[0], a[1], a[2], a[3]), 0, 5, 9, 1)
            .takes(BOX, new Argument(RANGE, new int[] {0, 9}, wrongOf(0, 9999)), within(RANGE, 5, 405), place));
        all.add(new Face("days from the last day", (p, a) -> p.days(0, a[0], a[1], 1), 9999, 9999)
            .takes(new Argument(RANGE, new int[] {9999}, new int[] {10000}), within(RANGE, 9999, 10399)));
    }

    private static void leases(List<Face> all) {
        all.add(new Face("lease", (p, a) -> p.lease(a[0], a[1], a[2]), 0, 5, 9999)
            .takes(new Argument(BOUNDS, new int[] {0}, wrongOf(0, 1)), DAY, within(RANGE, 5, 9999))
            .refusedIf("it is GONE", p -> p.handIn(0))
            .refusedIf("it has had 10", p -> {
                for (int i = 1; i < 10; i++) {
                    p.lease(0, i, 20);
                }
            }));
        all.add(new Face("lease of the line's own", (p, a) -> p.lease(1, a[0], a[1]), 5, 9999)
            .takes(new Argument(RANGE, new int[0], wrongOf(0, 9999)), new Argument(RANGE, new int[0], wrongOf(5, 9999)))
            .refusedIf("it is the line's own", p -> { }));
        all.add(new Face("free", (p, a) -> p.free(a[0]), 7).takes(within(RANGE, 0, 30)));
        all.add(new Face("payer", (p, a) -> p.payer(a[0], a[1]), 0, 5).takes(BOX, DAY));
        all.add(new Face("quota", (p, a) -> p.quota(a[0], a[1], a[2]), 1, 1, 5).takes(LESSOR, PORT, within(RANGE, 0, 9)));
        all.add(new Face("handIn", (p, a) -> p.handIn(a[0]), 0).takes(new Argument(BOUNDS, new int[] {0}, wrongOf(0, 1)))
            .refusedIf("it is GONE", p -> p.handIn(0))
            .refusedIf("its lease ended yesterday", p -> p.lease(0, 0, 8))
            .refusedIf("its lease begins tomorrow", p -> {
                p.lease(0, 0, 0);
                p.lease(0, 10, 20);
            })
            .refusedIf("it is on the road", p -> p.report(0, 9, BoxPool.OUT, 1))
            .refusedIf("it is on a ship", p -> p.report(0, 9, BoxPool.LOAD, 1))
            .refusedIf("it is given", p -> {
                p.standard(0, 4);
                p.book(1, 1, 1);
                p.serve();
            })
            .refusedIf("the quota is 0", p -> p.quota(1, 1, 0)));
        all.add(new Face("handIn of a third", (p, a) -> p.handIn(0))
            .refusedIf("the quota is used up", p -> {
                for (int box = 2; box < 4; box++) {
                    p.box(0, 1, 50);
                    p.report(box, 9, BoxPool.LAND, 1);
                    p.lease(box, 9, 9);
                    p.handIn(box);
                }
            }));
        all.add(new Face("handIn of the line's own", (p, a) -> p.handIn(1)).refusedIf("it is the line's", p -> { }));
        all.add(new Face("handIn of one nowhere", (p, a) -> p.handIn(2)).refusedIf("it is NOWHERE", p -> {
            p.box(0, 1, 50);
            p.lease(2, 0, 9999);
        }));
    }

    private static void damages(List<Face> all) {
        all.add(new Face("damage", (p, a) -> p.damage(a[0], a[1], a[2]), 0, 0, 5).takes(BOX, CODE, within(RANGE, 1, 20))
            .refusedIf("it is GONE", p -> p.handIn(0))
            .refusedIf("it has 12", p -> {
                for (int i = 1; i < 12; i++) {
                    p.damage(0, i % 5, 1);
                }
            }));
        all.add(new Face("standard", (p, a) -> p.standard(a[0], a[1]), 0, 5).takes(CODE, within(RANGE, 0, 20)));
        all.add(new Face("limit", (p, a) -> p.limit(a[0]), 7).takes(within(RANGE, 0, 9999)));
        all.add(new Face("mend", (p, a) -> p.mend(a[0]), 0).takes(new Argument(BOUNDS, new int[] {0}, wrongOf(0, 1)))
            .refusedIf("it is GONE", p -> p.handIn(0))
            .refusedIf("it has wear", p -> p.standard(0, 4))
            .refusedIf("it has no damage", p -> p.mend(0))
            .refusedIf("it costs more than the limit", p -> p.limit(39)));
    }

    private static void bookings(List<Face> all) {
        all.add(new Face("book", (p, a) -> p.book(a[0], a[1], a[2]), 1, 1, 5).takes(PORT, KIND, within(RANGE, 1, 9))
            .refusedIf("there are 20", p -> {
                for (int i = 2; i < 20; i++) {
                    p.book(3, 2, 1);
                }
            }));
        all.add(new Face("end", (p, a) -> p.end(a[0]), 0).takes(BOOKING).refusedIf("it is over", p -> {
            p.serve();
            p.end(0);
        }));
        Check.Use sixLack = p -> p.book(3, 1, 3);
        all.add(new Face("bring", (p, a) -> p.bring(a[0]), 1).takes(KIND).refusedIf("six units lack", sixLack));
        Face brings = new Face("brings", (p, a) -> p.brings(a[0], a[1]), 1, 0)
            .takes(KIND, new Argument(BOUNDS, new int[] {0, Integer.MAX_VALUE}, new int[] {-1, Integer.MIN_VALUE}))
            .refusedIf("six units lack", sixLack);
        brings.order = List.of(RANGE, BOUNDS, STATE);
        all.add(brings);
        all.add(new Face("boxIs", (p, a) -> p.boxIs(a[0], a[1]), 0, 0).takes(BOX, within(RANGE, 0, 7)));
        all.add(new Face("lacks", (p, a) -> p.lacks(a[0]), 0).takes(BOOKING));
    }

    /** Day 9: box 0 of lessor 1, on lease at port 1 and damaged, box 1 of the line at port 2, and two bookings. */
    private static void ahead(BoxPool pool) {
        pool.box(1, 1, 50);
        pool.box(0, -1, 50);
        pool.pass(9);
        pool.report(0, 3, BoxPool.IN, 1);
        pool.report(1, 3, BoxPool.LAND, 2);
        pool.lease(0, 0, 9999);
        pool.damage(0, 0, 4);
        pool.book(2, 0, 1);
        pool.book(4, 1, 3);
    }

    /** Box 0 has 30 reports then, of which so many were told ahead. */
    private static void fill(BoxPool pool, int had) {
        for (int i = had; i < 30; i++) {
            pool.report(0, i % 9, i / 9, 4);
        }
    }

    private static void passTo(BoxPool pool, int day) {
        int now = pool.pass(1);
        while (now < day) {
            now = pool.pass(Math.min(400, day - now));
        }
    }

    private static Argument within(Class<? extends RuntimeException> due, int least, int most) {
        return new Argument(due, new int[] {least, most}, wrongOf(least, most));
    }

    private static int[] wrongOf(int least, int most) {
        return new int[] {least - 1, most + 1, Integer.MIN_VALUE, Integer.MAX_VALUE};
    }

    private static void rightEdges(Face face) {
        for (int i = 0; i < face.arguments.size(); i++) {
            for (int value : face.arguments.get(i).right()) {
                int[] arguments = face.right.clone();
                arguments[i] = value;
                BoxPool pool = new BoxPool();
                ahead(pool);
                CHECK.taken(face.name + text(arguments), pool, p -> face.call.on(p, arguments));
            }
        }
    }

    /** Goes through the arguments from one on, each right or wrong, behind those that were wrong already. */
    private static void wrongOnes(Face face, int from, int[] arguments, List<Class<? extends RuntimeException>> due) {
        if (from < face.arguments.size()) {
            Argument argument = face.arguments.get(from);
            wrongOnes(face, from + 1, arguments, due);
            // Alone each wrong value is tried, with other wrong ones just the two beside the edges.
            int values = due.isEmpty() ? argument.wrong().length : Math.min(2, argument.wrong().length);
            for (int i = 0; i < values; i++) {
                int[] wrong = arguments.clone();
                wrong[from] = argument.wrong()[i];
                List<Class<? extends RuntimeException>> dueThen = new ArrayList<>(due);
                dueThen.add(argument.due());
                wrongOnes(face, from + 1, wrong, dueThen);
            }
            return;
        }
        refusedAsListed(face, "", p -> { }, arguments, due);
        for (int i = 0; i < face.states.size(); i++) {
            List<Class<? extends RuntimeException>> dueThen = new ArrayList<>(due);
            dueThen.add(STATE);
            refusedAsListed(face, face.stateNames.get(i), face.states.get(i), arguments, dueThen);
        }
    }

    private static void refusedAsListed(Face face, String state, Check.Use told, int[] arguments,
            List<Class<? extends RuntimeException>> due) {
        for (Class<? extends RuntimeException> listed : face.order) {
            if (due.contains(listed)) {
                CHECK.refused(face.name + text(arguments) + " " + state, listed, p -> {
                    ahead(p);
                    told.on(p);
                }, p -> face.call.on(p, arguments));
                return;
            }
        }
    }

    private static String text(int[] arguments) {
        StringBuilder all = new StringBuilder();
        for (int argument : arguments) {
            all.append(' ').append(argument);
        }
        return all.toString();
    }
}
