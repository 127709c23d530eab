/** Promises 18 to 22: capacity, would, bearable, isSound, digest. */
public final class WouldBeTest {
    private static final Check check = new Check();

    public static void main(String[] args) {
        capacityByRadius();
        capacityByFalls();
        capacityByWind();
        wouldByVerdict();
        wouldByStep();
        bearableAsked();
        soundAlways();
        soundByFortyPages();
        digestOfNothing();
        digestOfAll();
        check.end();
    }

    private static void capacityByRadius() {
        Slewfree x = new Slewfree();
        x.crane(40, 2);
        x.table(0, 90, 67, 66, 3);
        int[] radii = {10, 11, 13, 15, 19, 20, 21, 29, 30, 31, 35, 39, 40};
        int[] due = {90, 87, 83, 78, 69, 67, 66, 66, 66, 59, 34, 9, 3};
        for (int i = 0; i < radii.length; i++) {
            check.due("18: capacity at " + radii[i], x.capacity(0, radii[i]), due[i]);
        }
    }

    private static void capacityByFalls() {
        Slewfree x = new Slewfree();
        x.crane(40, 4);
        x.table(0, 50, 30, 3, 2);
        int[] radii = {10, 15, 20, 26, 30, 31, 40};
        int[] due = {95, 75, 55, 21, 1, 0, 0};
        for (int i = 0; i < radii.length; i++) {
            check.due("18: capacity by 4 falls at " + radii[i], x.capacity(0, radii[i]), due[i]);
        }
    }

    private static void capacityByWind() {
        Slewfree x = new Slewfree();
        x.crane(40, 2);
        x.crane(40, 4);
        x.table(0, 9, 4, 2, 1);
        x.table(1, 9, 4, 2, 1);
        int[] winds = {8, 9, 12, 13, 30};
        int[] due = {9, 8, 5, 4, 0};
        int[] dueByFour = {13, 12, 9, 8, 0};
        for (int i = 0; i < winds.length; i++) {
            x.wind(winds[i], 0, 0);
            x.pass(1);
            check.due("18: capacity by wind " + winds[i], x.capacity(0, 10), due[i]);
            check.due("18: capacity by 4 falls, wind " + winds[i], x.capacity(1, 10), dueByFour[i]);
        }
    }

    private static Slewfree site() {
        Slewfree x = new Slewfree();
        x.crane(40, 2);
        x.crane(40, 2);
        x.table(0, 80, 60, 40, 20);
        x.table(1, 80, 60, 40, 20);
        x.zone(0, 20, 21, 0, 24);
        x.meeting(0, 5, 1, 0);
        x.meeting(1, 7, 0, 0);
        return x;
    }

    private static void wouldByVerdict() {
        Slewfree x = site();
        long before = x.digest();
        check.due("19: done", x.would(0, 10, 40, 10, 4, false), 0);
        check.due("19: too heavy", x.would(0, 21, 10, 40, 4, false), 3);
        check.due("19: shut", x.would(0, 10, 10, 40, 21, false), 4);
        check.due("19: clashes", x.would(0, 10, 10, 40, 6, false), 5);
        check.due("19: the other one clashes", x.would(1, 10, 10, 10, 7, false), 5);
        check.due("19: nothing is changed", x.digest(), before);
        x.lock(0, false);
        check.due("19: free", x.would(0, 199, 10, 40, 6, false), 1);
        x.lock(0, true);
        x.lift(0, 80, 10, 10, 0);
        x.lift(0, 80, 10, 10, 0);
        check.due("19: worn", x.would(0, 199, 10, 40, 6, false), 2);
    }

    private static void wouldByStep() {
        Slewfree x = site();
        check.due("19: no step, if done", x.would(0, 10, 40, 10, 4, true), -1);
        check.due("19: at the last step of the radius", x.would(0, 21, 10, 40, 4, true), 30);
        check.due("19: at the first step", x.would(0, 61, 20, 10, 4, true), 0);
        check.due("19: at the second step", x.would(0, 60, 20, 40, 4, true), 1);
        check.due("19: behind 30 metres at the third turn", x.would(0, 10, 10, 40, 21, true), 33);
        check.due("19: inward too", x.would(0, 10, 40, 30, 20, true), 13);
        check.due("19: at the fifth turn", x.would(0, 10, 10, 10, 6, true), 5);
        check.due("19: at the last step", x.would(0, 10, 10, 10, 5, true), 5);
        check.due("19: the other one", x.would(1, 10, 10, 11, 9, true), 8);
        check.due("19: pages", x.site(13), 0);
        x.lock(0, false);
        check.due("19: no step, if free", x.would(0, 199, 10, 40, 6, true), -1);
        x.lock(0, true);
        x.lift(0, 80, 10, 10, 0);
        x.lift(0, 80, 10, 10, 0);
        check.due("19: no step, if worn", x.would(0, 199, 10, 40, 6, true), -1);
    }

    private static void bearableAsked() {
        Slewfree x = new Slewfree();
        x.crane(40, 2);
        x.table(0, 5, 4, 1, 0);
        check.due("20: 5", x.bearable(0, 10), 12);
        check.due("20: 4", x.bearable(0, 20), 11);
        check.due("20: 2", x.bearable(0, 26), 9);
        check.due("20: 1", x.bearable(0, 30), 8);
        check.due("20: 0", x.bearable(0, 40), -1);
        check.due("20: 0 ahead of that", x.bearable(0, 31), -1);
        x.wind(30, 0, 0);
        x.pass(1);
        check.due("20: not by the wind of now", x.bearable(0, 20), 11);
        x.crane(40, 4);
        check.due("20: below 0", x.bearable(1, 10), -1);
        x.table(1, 99, 6, 3, 2);
        check.due("20: much", x.bearable(1, 10), 12);
        check.due("20: by 4 falls 7", x.bearable(1, 20), 12);
        check.due("20: by 4 falls 1", x.bearable(1, 30), 8);
        check.due("20: by 4 falls -1", x.bearable(1, 40), -1);
    }

    /** No calls lead to a site that is not sound; so it is true in every state that is told here. */
    private static void soundAlways() {
        Slewfree x = site();
        check.due("21: told", x.isSound(), true);
        x.lift(0, 80, 10, 10, 0);
        x.lift(1, 5, 10, 40, 0);
        check.due("21: lifts at and below their least capacity", x.isSound(), true);
        x.lift(1, 199, 10, 10, 0);
        check.due("21: a lift refused above its capacity", x.isSound(), true);
        x.tandem(0, 1, 90, 5);
        x.table(0, 0, 0, 0, 0);
        check.due("21: a table that bears less than was lifted", x.isSound(), true);
        x.wind(30, 10, 5);
        x.pass(100);
        check.due("21: by storm", x.isSound(), true);
        x.crane(20, 2);
        check.due("21: a crane that came by storm", x.isSound(), true);
        x.tear(0);
        check.due("21: a page torn out", x.isSound(), true);
        x.rope(0);
        check.due("21: a rope renewed", x.isSound(), true);
    }

    private static void soundByFortyPages() {
        Slewfree x = site();
        for (int i = 0; i < 41; i++) {
            x.lift(0, 1, 10, 10, 0);
            x.rope(0);
        }
        check.due("21: 40 pages", x.site(12), 40);
        check.due("21: whole", x.site(14), 1);
        check.due("21: sound", x.isSound(), true);
    }

    private static void digestOfNothing() {
        Slewfree x = new Slewfree();
        long d = 8923;
        int[] site = {0, 0, 0, 0, 0, 0, 31, 0, 0, 0, 0, 0, 0, 0, 1, -1, 0};
        for (int v : site) {
            d = d * 31 + v;
        }
        d = d * 31;
        d = d * 31 + 1;
        check.due("22: nothing", x.digest(), d);
        x.knock();
        check.due("22: a knock", x.digest(), d + 31 * 31);
    }

    private static void digestOfAll() {
        Slewfree x = new Slewfree();
        x.crane(40, 4);
        x.crane(22, 2);
        x.table(0, 90, 60, 9, 5);
        x.table(1, 60, 33, 22, 0);
        x.zone(1, 3, 4, 0, 5);
        x.meeting(0, 4, 1, 4);
        x.wind(2, 9, 14);
        x.pass(75);
        x.lift(0, 20, 10, 25, 7);
        x.lock(1, false);
        x.tandem(0, 1, 10, 3);
        x.lift(0, 90, 10, 25, 7);
        x.tear(2);
        check.due("22: pages", x.site(12), 3);
        long d = 8923;
        for (int what = 0; what <= 16; what++) {
            d = d * 31 + x.site(what);
        }
        int[] reach = {40, 22};
        for (int crane = 0; crane < 2; crane++) {
            for (int what = 0; what <= 9; what++) {
                d = d * 31 + x.ofCrane(crane, what);
            }
            d = d * 31 + x.capacity(crane, reach[crane]);
            d = d * 31 + x.bearable(crane, reach[crane]);
        }
        for (int page = 0; page < 3; page++) {
            for (int what = 0; what <= 6; what++) {
                d = d * 31 + x.page(page, what);
            }
        }
        d = d * 31 + x.jibs().length();
        d = d * 31 + 1;
        check.due("22: all", x.digest(), d);
        check.due("22: asked again", x.digest(), d);
    }
}
