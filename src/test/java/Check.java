import java.util.Objects;

/** Compares answers with those that are due, and tells how many were wrong at the end. */
final class Check {
    static final Class<? extends RuntimeException> NOTHING = null;
    static final Class<? extends RuntimeException> NO_SUCH = IndexOutOfBoundsException.class;
    static final Class<? extends RuntimeException> BAD = IllegalArgumentException.class;
    static final Class<? extends RuntimeException> STATE = IllegalStateException.class;

    private static final int LATER_RUNS = 3;

    /** Makes a site, the same one each time. */
    interface Made {
        Slewfree make();
    }

    interface Call {
        void run(Slewfree site);
    }

    private int wrong;
    private int seen;

    void due(String what, Object got, Object want) {
        seen++;
        if (!Objects.equals(got, want)) {
            wrong++;
            System.out.println(what + " answered " + got + ", due is " + want);
        }
    }

    /** The call throws exactly that kind, or nothing. */
    void thrown(String what, Slewfree site, Class<? extends RuntimeException> kind, Call call) {
        due(what + " throws", thrownBy(site, call), kind);
    }

    /** The call throws exactly that kind, and all that is asked and done later comes out as if it had not been. */
    void refused(String what, Made made, Class<? extends RuntimeException> kind, Call call) {
        for (int run = 0; run < LATER_RUNS; run++) {
            Slewfree site = made.make();
            thrown(what, site, kind, call);
            due(what + " changes", Later.firstDifference(site, made.make(), run), Later.NOTHING);
        }
    }

    void end() {
        System.out.println(seen + " answers looked at, " + wrong + " wrong");
        if (wrong > 0 || seen == 0) {
            System.exit(1);
        }
    }

    private static Class<?> thrownBy(Slewfree site, Call call) {
        try {
            call.run(site);
            return null;
        } catch (RuntimeException e) {
            return e.getClass();
        }
    }
}
