/** Compares answers with those that are due; a test ends with exit code 1 if one was not. */
final class Check {
    interface Use {
        void on(BoxPool pool);
    }

    private static final Probe[] PROBES = Probe.values();

    private final String name;
    private int made = 0;
    private int wrong = 0;

    Check(String name) {
        this.name = name;
    }

    void same(String what, long due, long got) {
        made++;
        if (due != got) {
            tell(what + " answered " + got + ", due is " + due);
        }
    }

    void same(String what, boolean due, boolean got) {
        same(what, due ? 1 : 0, got ? 1 : 0);
    }

    void same(String what, String due, String got) {
        made++;
        if (!due.equals(got)) {
            tell(what + " answered " + got + ", due is " + due);
        }
    }

    /** The very class is asked for: what the machine throws is a subclass, and is not due. */
    void thrown(String what, Class<? extends RuntimeException> due, BoxPool pool, Use call) {
        made++;
        try {
            call.on(pool);
            tell(what + " threw nothing, due is " + due.getSimpleName());
        } catch (RuntimeException e) {
            if (e.getClass() != due) {
                tell(what + " threw " + e.getClass().getSimpleName() + ", due is " + due.getSimpleName());
            }
        }
    }

    void taken(String what, BoxPool pool, Use call) {
        made++;
        try {
            call.on(pool);
        } catch (RuntimeException e) {
            tell(what + " threw " + e.getClass().getSimpleName() + ", due is an answer");
        }
    }

    /** The call throws, and an object answers, whatever it is asked, as one on which the call was never made. */
    void refused(String what, Class<? extends RuntimeException> due, Use ahead, Use call) {
        for (Probe probe : PROBES) {
            BoxPool touched = new BoxPool();
            ahead.on(touched);
            thrown(what, due, touched, call);
            BoxPool untouched = new BoxPool();
            ahead.on(untouched);
            same(what + ", then " + probe, probe.of(untouched), probe.of(touched));
        }
    }

    void noSuch(String what, Use ahead, Use call) {
        refused(what, IndexOutOfBoundsException.class, ahead, call);
    }

    void outOfRange(String what, Use ahead, Use call) {
        refused(what, IllegalArgumentException.class, ahead, call);
    }

    void notNow(String what, Use ahead, Use call) {
        refused(what, IllegalStateException.class, ahead, call);
    }

    void finish() {
        System.out.println(name + ": " + made + " answers, " + wrong + " not as due");
        if (wrong != 0) {
            System.exit(1);
        }
    }

    private void tell(String what) {
        wrong++;
        System.out.println(name + ": " + what);
    }
}
