/**
 * Each refused call: the last value that is allowed and the first that is not, which exception it is, which one where
 * several apply, and that nothing is changed by it.
 */
public final class RefusedTest {
    private static final Class<? extends RuntimeException> NOTHING = Check.NOTHING;
    private static final Class<? extends RuntimeException> NO_SUCH = Check.NO_SUCH;
    private static final Class<? extends RuntimeException> BAD = Check.BAD;
    private static final Class<? extends RuntimeException> STATE = Check.STATE;

    private static final int NEAR = 320;
    private static final int[] FAR = {Integer.MIN_VALUE, Integer.MIN_VALUE + 1, -1000000, 1000000,
        Integer.MAX_VALUE - 299, Integer.MAX_VALUE - 1, Integer.MAX_VALUE};

    private static final Check check = new Check();

    private interface CallOf {
        void run(Slewfree site, int value);
    }

    private interface CallOfTwo {
        void run(Slewfree site, int one, int other);
    }

    /** Which exception is due to a value. */
    private interface Due {
        Class<? extends RuntimeException> of(int value);
    }

    public static void main(String[] args) {
        crane();
        table();
        zone();
        meeting();
        rope();
        wind();
        pass();
        lock();
        sitesToLiftAreSuch();
        lift();
        tandem();
        tear();
        ofCrane();
        page();
        site();
        capacity();
        would();
        bearable();
        neverRefused();
        check.end();
    }

    private static void crane() {
        within("2: reach by 2 falls", Slewfree::new, 10, 40, (x, v) -> x.crane(v, 2));
        within("2: reach by 4 falls", Slewfree::new, 10, 40, (x, v) -> x.crane(v, 4));
        each("2: falls", () -> Sites.busy(1), v -> v == 2 || v == 4 ? NOTHING : BAD, (x, v) -> x.crane(20, v));
        check.thrown("2: a third", Sites.busy(2), NOTHING, x -> x.crane(20, 2));
        check.refused("2: a fourth", () -> Sites.busy(3), STATE, x -> x.crane(20, 2));
        check.refused("2: a fourth of a full site", Sites::full, STATE, x -> x.crane(40, 4));
        check.refused("2: a fourth of reach 9", () -> Sites.busy(3), BAD, x -> x.crane(9, 2));
        check.refused("2: a fourth of reach 41", () -> Sites.busy(3), BAD, x -> x.crane(41, 2));
        check.refused("2: a fourth of falls 3", () -> Sites.busy(3), BAD, x -> x.crane(20, 3));
    }

    private static void table() {
        craneNumbers("3", NOTHING, (x, v) -> x.table(v, 4, 3, 2, 1));
        craneNumbers("3: 100,", BAD, (x, v) -> x.table(v, 100, 3, 2, 1));
        craneNumbers("3: rising,", BAD, (x, v) -> x.table(v, 4, 3, 2, 3));
        Check.Made two = () -> Sites.busy(2);
        within("3: ten", two, 0, 99, (x, v) -> x.table(1, v, 0, 0, 0));
        within("3: ten by twenty 50", two, 50, 99, (x, v) -> x.table(1, v, 50, 40, 30));
        within("3: twenty by ten 60", two, 40, 60, (x, v) -> x.table(1, 60, v, 40, 20));
        within("3: twenty by ten 99", two, 0, 99, (x, v) -> x.table(0, 99, v, 0, 0));
        within("3: thirty by twenty 40", two, 20, 40, (x, v) -> x.table(0, 60, 40, v, 20));
        within("3: thirty by twenty 99", two, 0, 99, (x, v) -> x.table(1, 99, 99, v, 0));
        within("3: forty by thirty 20", two, 0, 20, (x, v) -> x.table(0, 60, 40, 20, v));
        within("3: forty by thirty 99", two, 0, 99, (x, v) -> x.table(0, 99, 99, 99, v));
        check.refused("3: all 100", two, BAD, x -> x.table(0, 100, 100, 100, 100));
        check.refused("3: all -1", two, BAD, x -> x.table(0, -1, -1, -1, -1));
        check.refused("3: twenty more, though less than 99", two, BAD, x -> x.table(0, 0, 1, 0, 0));
        check.refused("3: thirty more than twenty, less than ten", two, BAD, x -> x.table(0, 60, 40, 41, 20));
        check.refused("3: forty more than thirty, less than twenty", two, BAD, x -> x.table(0, 60, 40, 20, 21));
    }

    private static void zone() {
        craneNumbers("4", NOTHING, (x, v) -> x.zone(v, 1, 2, 3, 4));
        craneNumbers("4: from 24,", BAD, (x, v) -> x.zone(v, 24, 2, 3, 4));
        craneNumbers("4: until 3,", BAD, (x, v) -> x.zone(v, 1, 2, 3, 3));
        Check.Made one = () -> Sites.busy(1);
        within("4: from", one, 0, 23, (x, v) -> x.zone(0, v, 2, 3, 4));
        within("4: to", one, 0, 23, (x, v) -> x.zone(0, 22, v, 3, 4));
        within("4: begin by until 24", one, 0, 23, (x, v) -> x.zone(0, 1, 2, v, 24));
        within("4: begin by until 10", one, 0, 9, (x, v) -> x.zone(0, 1, 2, v, 10));
        within("4: begin, until 1 more", one, 0, 23, (x, v) -> x.zone(0, 1, 2, v, v + 1));
        within("4: until by begin 0", one, 1, 24, (x, v) -> x.zone(0, 1, 2, 0, v));
        within("4: until by begin 9", one, 10, 24, (x, v) -> x.zone(0, 1, 2, 9, v));
        within("4: until by begin 23", one, 24, 24, (x, v) -> x.zone(0, 1, 2, 23, v));
        check.refused("4: begin 24, until 24", one, BAD, x -> x.zone(0, 1, 2, 24, 24));
        check.refused("4: begin most int", one, BAD, x -> x.zone(0, 1, 2, Integer.MAX_VALUE, Integer.MIN_VALUE));
        check.refused("4: a seventh", Sites::full, STATE, x -> x.zone(0, 5, 5, 0, 24));
        check.refused("4: a seventh of another crane", Sites::full, STATE, x -> x.zone(2, 0, 23, 0, 24));
        check.refused("4: a seventh from -1", Sites::full, BAD, x -> x.zone(0, -1, 5, 0, 24));
        check.refused("4: a seventh to 24", Sites::full, BAD, x -> x.zone(0, 5, 24, 0, 24));
        check.refused("4: a seventh begun at 24", Sites::full, BAD, x -> x.zone(0, 5, 5, 24, 24));
        check.refused("4: a seventh until 25", Sites::full, BAD, x -> x.zone(0, 5, 5, 0, 25));
        check.refused("4: a seventh of no crane", Sites::full, NO_SUCH, x -> x.zone(3, 5, 5, 0, 24));
        check.refused("4: a seventh of no crane from 24", Sites::full, NO_SUCH, x -> x.zone(-1, 24, 5, 0, 24));
    }

    private static void meeting() {
        cranePairs("5", NOTHING, (x, one, other) -> x.meeting(one, 1, other, 2));
        cranePairs("5: angle 24,", BAD, (x, one, other) -> x.meeting(one, 24, other, 2));
        cranePairs("5: otherAngle -1,", BAD, (x, one, other) -> x.meeting(one, 1, other, -1));
        Check.Made two = () -> Sites.busy(2);
        within("5: angle", two, 0, 23, (x, v) -> x.meeting(0, v, 1, 2));
        within("5: otherAngle", two, 0, 23, (x, v) -> x.meeting(1, 2, 0, v));
        check.refused("5: a seventh", Sites::full, STATE, x -> x.meeting(0, 5, 1, 0));
        check.refused("5: a seventh turned round", Sites::full, STATE, x -> x.meeting(1, 0, 0, 5));
        check.refused("5: a seventh of the same", Sites::full, BAD, x -> x.meeting(0, 5, 0, 6));
        check.refused("5: a seventh at 24", Sites::full, BAD, x -> x.meeting(0, 24, 1, 0));
        check.refused("5: a seventh with one at -1", Sites::full, BAD, x -> x.meeting(0, 5, 1, -1));
        check.refused("5: a seventh of no crane", Sites::full, NO_SUCH, x -> x.meeting(3, 5, 1, 0));
        check.refused("5: a seventh with no crane", Sites::full, NO_SUCH, x -> x.meeting(0, 5, 3, 0));
        check.refused("5: a seventh of the same that is none", Sites::full, NO_SUCH, x -> x.meeting(-1, 24, -1, 0));
    }

    private static void rope() {
        craneNumbers("6", NOTHING, (x, v) -> x.rope(v));
    }

    private static void wind() {
        Check.Made two = () -> Sites.busy(2);
        within("7: base", two, 0, 30, (x, v) -> x.wind(v, 5, 9));
        within("7: gusts", two, 0, 10, (x, v) -> x.wind(5, v, 9));
        within("7: direction", two, 0, 23, (x, v) -> x.wind(5, 6, v));
        check.refused("7: all too great", two, BAD, x -> x.wind(31, 11, 24));
        check.refused("7: all too small", two, BAD, x -> x.wind(-1, -1, -1));
    }

    private static void pass() {
        within("8: minutes", () -> Sites.busy(2), 1, 300, (x, v) -> x.pass(v));
        within("8: minutes up to 9999", () -> lateSite(9699), 1, 300, (x, v) -> x.pass(v));
        check.refused("8: 300 up to 10000", () -> lateSite(9700), STATE, x -> x.pass(300));
        check.thrown("8: 299 up to 9999", lateSite(9700), NOTHING, x -> x.pass(299));
        check.refused("8: 2 up to 10000", () -> lateSite(9998), STATE, x -> x.pass(2));
        check.thrown("8: 1 up to 9999", lateSite(9998), NOTHING, x -> x.pass(1));
        Check.Made end = () -> lateSite(9999);
        check.refused("8: 1 at the end", end, STATE, x -> x.pass(1));
        check.refused("8: 300 at the end", end, STATE, x -> x.pass(300));
        check.refused("8: 301 at the end", end, BAD, x -> x.pass(301));
        check.refused("8: 0 at the end", end, BAD, x -> x.pass(0));
        check.refused("8: most int at the end", end, BAD, x -> x.pass(Integer.MAX_VALUE));
        check.refused("8: least int at the end", end, BAD, x -> x.pass(Integer.MIN_VALUE));
    }

    /** A locked jib and a free one at that MINUTE, and a storm that is told but has not come. */
    private static Slewfree lateSite(int minute) {
        Slewfree x = Sites.of(2);
        Sites.passAll(x, minute);
        x.lock(1, false);
        x.wind(13, 5, 9);
        return x;
    }

    private static void lock() {
        craneNumbers("9: locked,", NOTHING, (x, v) -> x.lock(v, true));
        craneNumbers("9: set free,", NOTHING, (x, v) -> x.lock(v, false));
        Check.Made storm = () -> Sites.inWind(2, 13);
        check.thrown("9: locked by wind 12", Sites.inWind(2, 12), NOTHING, x -> x.lock(0, true));
        check.refused("9: locked by wind 13", storm, STATE, x -> x.lock(0, true));
        check.refused("9: locked by wind 30", () -> Sites.inWind(2, 30), STATE, x -> x.lock(1, true));
        check.thrown("9: set free by wind 13", Sites.inWind(2, 13), NOTHING, x -> x.lock(0, false));
        check.refused("9: none, locked by wind 13", storm, NO_SUCH, x -> x.lock(2, true));
        check.refused("9: -1, locked by wind 13", storm, NO_SUCH, x -> x.lock(-1, true));
        check.refused("9: none, set free by wind 13", storm, NO_SUCH, x -> x.lock(2, false));
        check.refused("9: by the wind of now, not by what is told", () -> calmTold(), STATE, x -> x.lock(0, true));
    }

    private static Slewfree calmTold() {
        Slewfree x = Sites.inWind(2, 13);
        x.wind(0, 0, 0);
        return x;
    }

    /** The sites to lift on are what they are made for. */
    private static void sitesToLiftAreSuch() {
        for (int crane = 0; crane < 3; crane++) {
            check.due("the ropes are worn", wornSite().would(crane, 1, 10, 10, 0, false), 2);
            check.due("the jibs are free", stormSite().would(crane, 1, 10, 10, 0, false), 1);
        }
        check.due("the log is full", wornSite().site(12), 40);
    }

    private static void lift() {
        craneNumbers("10", NOTHING, (x, v) -> x.lift(v, 1, 10, 10, 0));
        craneNumbers("10: load 0,", BAD, (x, v) -> x.lift(v, 0, 10, 10, 0));
        craneNumbers("10: from 41,", BAD, (x, v) -> x.lift(v, 1, 41, 10, 0));
        craneNumbers("10: to 9,", BAD, (x, v) -> x.lift(v, 1, 10, 9, 0));
        craneNumbers("10: angle 24,", BAD, (x, v) -> x.lift(v, 1, 10, 10, 24));
        for (Check.Made made : sitesToLift()) {
            within("10: load", made, 1, 199, (x, v) -> x.lift(0, v, 10, 12, 3));
            within("10: load of one that is free", made, 1, 199, (x, v) -> x.lift(1, v, 10, 12, 3));
            radii("10: from", made, (x, crane, v) -> x.lift(crane, 1, v, 10, 3));
            radii("10: to", made, (x, crane, v) -> x.lift(crane, 1, 10, v, 3));
            radii("10: from and to", made, (x, crane, v) -> x.lift(crane, 1, v, v, 3));
            within("10: angle", made, 0, 23, (x, v) -> x.lift(0, 1, 10, 12, v));
        }
    }

    private static void would() {
        craneNumbers("19", NOTHING, (x, v) -> x.would(v, 1, 10, 10, 0, false));
        craneNumbers("19: load 0,", BAD, (x, v) -> x.would(v, 0, 10, 10, 0, false));
        craneNumbers("19: from 41,", BAD, (x, v) -> x.would(v, 1, 41, 10, 0, true));
        craneNumbers("19: to 9,", BAD, (x, v) -> x.would(v, 1, 10, 9, 0, false));
        craneNumbers("19: angle 24,", BAD, (x, v) -> x.would(v, 1, 10, 10, 24, true));
        for (Check.Made made : sitesToLift()) {
            within("19: load", made, 1, 199, (x, v) -> x.would(0, v, 10, 12, 3, false));
            within("19: load, asked for its step", made, 1, 199, (x, v) -> x.would(1, v, 10, 12, 3, true));
            radii("19: from", made, (x, crane, v) -> x.would(crane, 1, v, 10, 3, true));
            radii("19: to", made, (x, crane, v) -> x.would(crane, 1, 10, v, 3, false));
            within("19: angle", made, 0, 23, (x, v) -> x.would(0, 1, 10, 12, v, false));
            within("19: angle, asked for its step", made, 0, 23, (x, v) -> x.would(0, 1, 10, 12, v, true));
        }
    }

    /** Wrong values are refused also where the LIFT would come to VERDICT 1 or 2, and with a log that is full. */
    private static Check.Made[] sitesToLift() {
        return new Check.Made[] {() -> Sites.busy(3), RefusedTest::wornSite, RefusedTest::stormSite};
    }

    private static Slewfree wornSite() {
        Slewfree x = Sites.busy(3);
        for (int i = 0; i < 3; i++) {
            x.lock(i, true);
            x.lift(i, 40, 10, 10, 0);
            x.lift(i, 40, 10, 10, 0);
            x.lift(i, 40, 10, 10, 0);
            x.lift(i, 40, 10, 10, 0);
        }
        Sites.writePages(x, 2, 40);
        return x;
    }

    private static Slewfree stormSite() {
        Slewfree x = Sites.busy(3);
        Sites.blow(x, 13);
        return x;
    }

    private static void tandem() {
        cranePairs("11", NOTHING, (x, one, other) -> x.tandem(one, other, 1, 1));
        cranePairs("11: load 0,", BAD, (x, one, other) -> x.tandem(one, other, 0, 1));
        cranePairs("11: part 10,", BAD, (x, one, other) -> x.tandem(one, other, 1, 10));
        for (Check.Made made : sitesToLift()) {
            within("11: load", made, 1, 199, (x, v) -> x.tandem(0, 2, v, 5));
            within("11: part", made, 1, 9, (x, v) -> x.tandem(0, 2, 50, v));
            within("11: part with one that is free", made, 1, 9, (x, v) -> x.tandem(1, 2, 1, v));
            check.refused("11: the same", made, BAD, x -> x.tandem(2, 2, 1, 1));
        }
    }

    private static void tear() {
        pageNumbers("12", NOTHING, (x, v) -> x.tear(v));
        Check.Made torn = () -> {
            Slewfree x = Sites.full();
            x.tear(0);
            return x;
        };
        each("12: of 40, one torn out,", torn, v -> isWithin(v, 0, 38) ? NOTHING : NO_SUCH, (x, v) -> x.tear(v));
    }

    private static void ofCrane() {
        craneNumbers("14", NOTHING, (x, v) -> x.ofCrane(v, 0));
        craneNumbers("14: what 10,", BAD, (x, v) -> x.ofCrane(v, 10));
        craneNumbers("14: what -1,", BAD, (x, v) -> x.ofCrane(v, -1));
        within("14: what", () -> Sites.busy(2), 0, 9, (x, v) -> x.ofCrane(1, v));
    }

    private static void page() {
        pageNumbers("15", NOTHING, (x, v) -> x.page(v, 0));
        pageNumbers("15: what 7,", BAD, (x, v) -> x.page(v, 7));
        pageNumbers("15: what -1,", BAD, (x, v) -> x.page(v, -1));
        within("15: what", Sites::full, 0, 6, (x, v) -> x.page(39, v));
    }

    private static void site() {
        within("16: what", () -> Sites.busy(2), 0, 16, (x, v) -> x.site(v));
        within("16: what of nothing", Slewfree::new, 0, 16, (x, v) -> x.site(v));
    }

    private static void capacity() {
        craneNumbers("18", NOTHING, (x, v) -> x.capacity(v, 10));
        craneNumbers("18: radius 9,", BAD, (x, v) -> x.capacity(v, 9));
        craneNumbers("18: radius 41,", BAD, (x, v) -> x.capacity(v, 41));
        radii("18: radius", () -> Sites.busy(3), (x, crane, v) -> x.capacity(crane, v));
    }

    private static void bearable() {
        craneNumbers("20", NOTHING, (x, v) -> x.bearable(v, 10));
        craneNumbers("20: radius 9,", BAD, (x, v) -> x.bearable(v, 9));
        craneNumbers("20: radius 41,", BAD, (x, v) -> x.bearable(v, 41));
        radii("20: radius", () -> Sites.busy(3), (x, crane, v) -> x.bearable(crane, v));
    }

    private static void neverRefused() {
        Check.Made[] sites = {Slewfree::new, () -> Sites.busy(3), Sites::full, () -> lateSite(9999)};
        for (Check.Made made : sites) {
            check.thrown("1: a new object", made.make(), NOTHING, x -> new Slewfree());
            check.thrown("13: knock", made.make(), NOTHING, x -> x.knock());
            check.thrown("17: jibs", made.make(), NOTHING, x -> x.jibs());
            check.thrown("21: isSound", made.make(), NOTHING, x -> x.isSound());
            check.thrown("22: digest", made.make(), NOTHING, x -> x.digest());
        }
    }

    // ---- how they are tried

    /** All values near 0 and some far away, each with the exception that is due to it. */
    private static void each(String what, Check.Made made, Due due, CallOf call) {
        for (int v = -NEAR; v <= NEAR; v++) {
            each(what + " " + v, made, due, v, call);
        }
        for (int v : FAR) {
            each(what + " " + v, made, due, v, call);
        }
    }

    private static void each(String what, Check.Made made, Due due, int value, CallOf call) {
        Class<? extends RuntimeException> kind = due.of(value);
        boolean isEdge = due.of(value - 1) != kind || due.of(value + 1) != kind || value == 0
                || value == Integer.MIN_VALUE || value == Integer.MAX_VALUE;
        if (kind != NOTHING && isEdge) {
            check.refused(what, made, kind, x -> call.run(x, value));
        } else {
            check.thrown(what, made.make(), kind, x -> call.run(x, value));
        }
    }

    private static void within(String what, Check.Made made, int least, int most, CallOf call) {
        each(what, made, v -> isWithin(v, least, most) ? NOTHING : BAD, call);
    }

    /** The kind is what the call throws if there is such a crane; if there is none, that is named first. */
    private static void craneNumbers(String what, Class<? extends RuntimeException> kind, CallOf call) {
        for (int cranes = 0; cranes <= 3; cranes++) {
            int count = cranes;
            each(what + " of " + cranes + " cranes the number", () -> Sites.of(count),
                    v -> isWithin(v, 0, count - 1) ? kind : NO_SUCH, call);
        }
    }

    private static void pageNumbers(String what, Class<? extends RuntimeException> kind, CallOf call) {
        for (int pages : new int[] {0, 1, 2, 39, 40}) {
            each(what + " of " + pages + " pages the number", () -> siteOfPages(pages),
                    v -> isWithin(v, 0, pages - 1) ? kind : NO_SUCH, call);
        }
    }

    private static Slewfree siteOfPages(int pages) {
        Slewfree x = Sites.of(1);
        Sites.writePages(x, 0, pages);
        return x;
    }

    /** Likewise for two cranes, which are refused if they are the same. */
    private static void cranePairs(String what, Class<? extends RuntimeException> kind, CallOfTwo call) {
        for (int cranes = 0; cranes <= 3; cranes++) {
            for (int one : numbersNear(cranes)) {
                for (int other : numbersNear(cranes)) {
                    boolean areThere = isWithin(one, 0, cranes - 1) && isWithin(other, 0, cranes - 1);
                    cranePair(what + " of " + cranes + " cranes " + one + " and " + other, cranes,
                            !areThere ? NO_SUCH : one == other ? BAD : kind, x -> call.run(x, one, other));
                }
            }
        }
    }

    private static int[] numbersNear(int cranes) {
        int[] numbers = new int[cranes + 4];
        for (int i = 0; i < cranes + 2; i++) {
            numbers[i] = i - 1;
        }
        numbers[cranes + 2] = Integer.MIN_VALUE;
        numbers[cranes + 3] = Integer.MAX_VALUE;
        return numbers;
    }

    private static void cranePair(String what, int cranes, Class<? extends RuntimeException> kind, Check.Call call) {
        if (kind == NOTHING) {
            check.thrown(what, Sites.of(cranes), kind, call);
        } else {
            check.refused(what, () -> Sites.of(cranes), kind, call);
        }
    }

    /** From 10 to the REACH of each crane of a busy site, and not beyond it, though another one reaches farther. */
    private static void radii(String what, Check.Made made, CallOfTwo call) {
        int[] reaches = {40, 25, 10};
        for (int crane = 0; crane < 3; crane++) {
            int number = crane;
            within(what + " by reach " + reaches[crane], made, 10, reaches[crane], (x, v) -> call.run(x, number, v));
        }
    }

    private static boolean isWithin(int value, int least, int most) {
        return value >= least && value <= most;
    }
}
