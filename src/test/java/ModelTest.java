import java.util.Random;

/** Runs of up to 512 calls, right and wrong ones, on BoxPool and on Model: each answer must be the same. */
public final class ModelTest {
    private static final int RUNS = 2100;
    private static final int CALLS = 512;
    private static final int METHODS = 24;
    private static final String[] NAMES = {"cost", "box", "wash", "report", "place", "count", "days", "lease", "free",
        "payer", "quota", "handIn", "damage", "standard", "limit", "mend", "book", "serve", "end", "bring", "brings",
        "boxIs", "lacks", "pass"};
    /** How often each method is called, by the theme of the run. */
    private static final int[][] THEMES = {
        {4, 6, 6, 20, 8, 6, 6, 10, 2, 10, 4, 8, 8, 4, 3, 5, 5, 5, 4, 6, 8, 10, 5, 6},
        {1, 1, 1, 40, 20, 5, 15, 0, 2, 10, 0, 0, 0, 0, 0, 0, 0, 0, 0, 0, 0, 6, 0, 4},
        {0, 6, 1, 25, 2, 2, 0, 20, 1, 20, 6, 25, 0, 0, 0, 0, 2, 2, 1, 0, 0, 8, 1, 4},
        {0, 3, 3, 6, 0, 0, 0, 2, 0, 0, 0, 2, 30, 8, 5, 15, 3, 5, 2, 1, 1, 10, 2, 1},
        {10, 15, 5, 40, 0, 1, 0, 0, 0, 0, 0, 0, 1, 1, 0, 1, 4, 2, 3, 25, 50, 3, 2, 1},
        {2, 30, 4, 50, 1, 5, 1, 8, 0, 4, 2, 8, 5, 1, 1, 5, 12, 12, 3, 5, 10, 15, 8, 1},
        {1, 6, 6, 25, 10, 6, 15, 12, 2, 15, 3, 6, 2, 1, 0, 2, 3, 5, 2, 2, 3, 8, 2, 8},
    };
    /** In this theme there are as many boxes and bookings as can be. */
    private static final int FULL = 5;
    /** In this theme the days are the last ones. */
    private static final int LATE = 6;
    private static final int CALLS_TO_THE_LAST_DAYS = 24;
    private static final long REFUSED = Long.MAX_VALUE - 10;

    private final Random random;
    private final int theme;
    private final int[] args = new int[4];
    private int now = 0;

    private ModelTest(long seed, int theme) {
        this.random = new Random(seed);
        this.theme = theme;
    }

    public static void main(String[] args) {
        int wrong = 0;
        long refused = 0;
        for (int run = 0; run < RUNS; run++) {
            long told = new ModelTest(run, run % THEMES.length).run(run);
            if (told < 0) {
                wrong++;
            } else {
                refused += told;
            }
        }
        System.out.println("ModelTest: " + RUNS + " runs, " + refused + " calls refused, " + wrong + " runs not as due");
        if (wrong != 0) {
            System.exit(1);
        }
    }

    /** How many calls were refused; -1 if an answer was not as due. */
    private long run(int number) {
        BoxPool pool = new BoxPool();
        Model model = new Model();
        long refused = 0;
        for (int call = 0; call < CALLS; call++) {
            int method = call < 12 && random.nextInt(2) == 0 ? 1 : method();
            choose(method);
            if (theme == LATE && call < CALLS_TO_THE_LAST_DAYS) {
                method = METHODS - 1;
                put(400, 0, 0, 0);
            }
            long due = onModel(model, method);
            long got = onPool(pool, method);
            if (due != got) {
                System.out.println("ModelTest: run " + number + ", call " + call + ": " + NAMES[method] + "(" + args[0]
                    + ", " + args[1] + ", " + args[2] + ", " + args[3] + ") answered " + got + ", due is " + due);
                return -1;
            }
            if (due >= REFUSED) {
                refused++;
            } else if (method == METHODS - 1) {
                now = (int) due;
            }
        }
        return refused;
    }

    private int method() {
        int all = 0;
        for (int weight : THEMES[theme]) {
            all += weight;
        }
        int at = random.nextInt(all);
        int method = 0;
        while (at >= THEMES[theme][method]) {
            at -= THEMES[theme][method];
            method++;
        }
        return method;
    }

    private int from(int least, int most) {
        if (random.nextInt(60) == 0) {
            int[] odd = {least - 1, most + 1, Integer.MIN_VALUE, Integer.MAX_VALUE};
            return odd[random.nextInt(odd.length)];
        }
        return least + random.nextInt(most - least + 1);
    }

    private int near(int least, int most, int middle, int width) {
        if (random.nextInt(20) == 0) {
            return from(least, most);
        }
        return Math.max(least, Math.min(most, middle - width + random.nextInt(2 * width + 1)));
    }

    private int box() {
        return from(0, theme == 1 ? 3 : theme == 4 ? 20 : theme == FULL ? 39 : 9);
    }

    private int day() {
        return near(0, 9999, now, 20);
    }

    private int port() {
        return theme == 2 ? from(0, 1) == 1 ? from(0, 1) : from(0, 5) : from(0, 5);
    }

    private void put(int first, int second, int third, int fourth) {
        args[0] = first;
        args[1] = second;
        args[2] = third;
        args[3] = fourth;
    }

    private void choose(int method) {
        int start = day();
        switch (method) {
            case 0 -> put(port(), port(), theme == 4 ? from(0, 4) : from(0, 9999), 0);
            case 1 -> put(theme == 4 ? from(0, 1) : from(0, 2), from(-1, 2), near(0, 9999, now + 30, 40), 0);
            case 2 -> put(box(), near(0, 9999, now + 30, 40), 0, 0);
            case 3 -> put(box(), near(0, now, now, 10), theme == 4 ? 3 * from(0, 1) : from(0, 3), port());
            case 4 -> put(box(), start, 0, 0);
            case 5 -> put(port(), from(-1, 2), start, 0);
            case 6 -> put(box(), start, near(0, 9999, start + 20, 30), random.nextInt(2) == 0 ? from(10, 12) : from(0, 5));
            case 7 -> put(box(), start, near(0, 9999, start + 10, 11), 0);
            case 8 -> put(random.nextInt(2) == 0 ? from(0, 30) : from(0, 4), 0, 0, 0);
            case 9 -> put(box(), start, 0, 0);
            case 10 -> put(from(0, 2), port(), random.nextInt(2) == 0 ? from(0, 9) : from(1, 2), 0);
            case 11 -> put(box(), 0, 0, 0);
            case 12 -> put(box(), from(0, 4), random.nextInt(2) == 0 ? from(1, 20) : from(1, 5), 0);
            case 13 -> put(from(0, 4), random.nextInt(2) == 0 ? from(0, 20) : from(2, 4), 0, 0);
            case 14 -> put(random.nextInt(2) == 0 ? from(0, 9999) : from(100, 900), 0, 0, 0);
            case 15 -> put(box(), 0, 0, 0);
            case 16 -> put(port(), theme == 4 ? from(0, 1) : from(0, 2), random.nextInt(3) == 0 ? from(1, 9) : from(1, 2), 0);
            case 18 -> put(from(0, theme == 4 ? 12 : theme == FULL ? 19 : 6), 0, 0, 0);
            case 19 -> put(from(0, 2), 0, 0, 0);
            case 20 -> put(theme == 4 ? from(0, 1) : from(0, 2), from(0, 5), 0, 0);
            case 21 -> put(box(), from(0, 7), 0, 0);
            case 22 -> put(from(0, theme == FULL ? 19 : 8), 0, 0, 0);
            case 23 -> put(random.nextInt(8) == 0 ? from(1, 400) : from(1, theme == LATE ? 30 : 8), 0, 0, 0);
            default -> put(0, 0, 0, 0);
        }
    }

    private static long refusal(RuntimeException e) {
        if (e.getClass() == IndexOutOfBoundsException.class) {
            return REFUSED + 1;
        }
        if (e.getClass() == IllegalArgumentException.class) {
            return REFUSED + 2;
        }
        return e.getClass() == IllegalStateException.class ? REFUSED + 3 : REFUSED + 4;
    }

    private long onPool(BoxPool pool, int method) {
        int a = args[0];
        int b = args[1];
        int c = args[2];
        int d = args[3];
        try {
            switch (method) {
                case 0: return pool.cost(a, b, c);
                case 1: return pool.box(a, b, c);
                case 2: return pool.wash(a, b) ? 1 : 0;
                case 3: return pool.report(a, b, c, d);
                case 4: return pool.place(a, b);
                case 5: return pool.count(a, b, c);
                case 6: return pool.days(a, b, c, d);
                case 7: pool.lease(a, b, c); return 0;
                case 8: return pool.free(a);
                case 9: return pool.payer(a, b);
                case 10: return pool.quota(a, b, c);
                case 11: return pool.handIn(a);
                case 12: return pool.damage(a, b, c);
                case 13: return pool.standard(a, b);
                case 14: return pool.limit(a);
                case 15: return pool.mend(a);
                case 16: return pool.book(a, b, c);
                case 17: return pool.serve();
                case 18: return pool.end(a);
                case 19: return pool.bring(a);
                case 20: return pool.brings(a, b);
                case 21: return pool.boxIs(a, b);
                case 22: return pool.lacks(a);
                default: return pool.pass(a);
            }
        } catch (RuntimeException e) {
            return refusal(e);
        }
    }

    private long onModel(Model model, int method) {
        int a = args[0];
        int b = args[1];
        int c = args[2];
        int d = args[3];
        try {
            switch (method) {
                case 0: return model.cost(a, b, c);
                case 1: return model.box(a, b, c);
                case 2: return model.wash(a, b) ? 1 : 0;
                case 3: return model.report(a, b, c, d);
                case 4: return model.place(a, b);
                case 5: return model.count(a, b, c);
                case 6: return model.days(a, b, c, d);
                case 7: model.lease(a, b, c); return 0;
                case 8: return model.free(a);
                case 9: return model.payer(a, b);
                case 10: return model.quota(a, b, c);
                case 11: return model.handIn(a);
                case 12: return model.damage(a, b, c);
                case 13: return model.standard(a, b);
                case 14: return model.limit(a);
                case 15: return model.mend(a);
                case 16: return model.book(a, b, c);
                case 17: return model.serve();
                case 18: return model.end(a);
                case 19: return model.bring(a);
                case 20: return model.brings(a, b);
                case 21: return model.boxIs(a, b);
                case 22: return model.lacks(a);
                default: return model.pass(a);
            }
        } catch (RuntimeException e) {
            return refusal(e);
        }
    }
}
