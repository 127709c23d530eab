/** What comes later: the same calls to two sites, and the first of them that the two answer differently. */
final class Later {
    static final String NOTHING = "nothing";

    private static final int MADE_UP_CALLS = 100;

    private final Slewfree one;
    private final Slewfree other;
    private String difference = NOTHING;

    private Later(Slewfree one, Slewfree other) {
        this.one = one;
        this.other = other;
    }

    /** Some 290 calls, so that a site with at most 200 behind it stays within the 512 that are promised. */
    static String firstDifference(Slewfree one, Slewfree other, long seed) {
        Later later = new Later(one, other);
        later.askAll();
        later.clearTheWay();
        later.goAllWays();
        later.writeAPage();
        later.callOn(seed);
        return later.difference;
    }

    private void askAll() {
        ask("digest");
        ask("jibs");
        for (int crane = 0; crane < 3; crane++) {
            for (int radius = 10; radius <= 40; radius++) {
                ask("capacity", crane, radius);
            }
        }
    }

    private void clearTheWay() {
        ask("wind", 0, 0, 0);
        ask("pass", 1);
        for (int crane = 0; crane < 3; crane++) {
            ask("rope", crane);
            ask("lock", crane, true);
            ask("table", crane, 99, 99, 99, 99);
        }
    }

    private void goAllWays() {
        for (int crane = 0; crane < 3; crane++) {
            for (int angle = 0; angle < 24; angle++) {
                ask("would", crane, 1, 10, 10, angle, true);
            }
        }
    }

    /** Its SEAL tells which page was written last. */
    private void writeAPage() {
        ask("tear", 0);
        ask("lift", 0, 1, 10, 10, 0);
        ask("digest");
    }

    private void callOn(long seed) {
        MadeUp calls = new MadeUp(seed, 30, 1);
        for (int call = 0; call < MADE_UP_CALLS; call++) {
            calls.next();
            ask(calls.name, calls.arguments);
        }
        ask("digest");
    }

    private void ask(String name, Object... arguments) {
        Object got = MadeUp.answer(one, name, arguments);
        Object due = MadeUp.answer(other, name, arguments);
        if (!got.equals(due) && difference.equals(NOTHING)) {
            difference = MadeUp.text(name, arguments) + " from " + due + " to " + got;
        }
    }
}
