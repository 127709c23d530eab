import java.util.Objects;

/** Compares answers with those that are due, and tells how many were wrong at the end. */
final class Check {
    /** A call that may be refused. */
    interface Call {
        void run();
    }

    private int wrong;
    private int seen;

    void due(String what, Object got, Object want) {
        seen++;
        if (!Objects.equals(got, want)) {
            wrong++;
            System.out.println(what + " answered " + got + ", due is " + want);
        }
    }

    /** The call throws exactly that kind, and the site is the same behind it as ahead of it. */
    void refused(String what, Slewfree site, Class<? extends RuntimeException> kind, Call call) {
        long before = site.digest();
        Object thrown = null;
        try {
            call.run();
        } catch (RuntimeException e) {
            thrown = e.getClass();
        }
        due(what + " throws", thrown, kind);
        due(what + " leaves digest", site.digest(), before);
    }

    void noCrane(String what, Slewfree site, Call call) {
        refused(what, site, IndexOutOfBoundsException.class, call);
    }

    void noPage(String what, Slewfree site, Call call) {
        refused(what, site, IndexOutOfBoundsException.class, call);
    }

    void badArgument(String what, Slewfree site, Call call) {
        refused(what, site, IllegalArgumentException.class, call);
    }

    void badState(String what, Slewfree site, Call call) {
        refused(what, site, IllegalStateException.class, call);
    }

    void end() {
        System.out.println(seen + " answers looked at, " + wrong + " wrong");
        if (wrong > 0 || seen == 0) {
            System.exit(1);
        }
    }
}
