/** "3. Lifts": each sentence that names an edge, at the last value on its one side and the first on the other. */
public final class LiftEdgesTest {
    private static final Check check = new Check();

    public static void main(String[] args) {
        loadFromOneTo199();
        radiusFromTenToReach();
        angleFrom0To23();
        firstStepIsAsItStands();
        radiusChangesMetreByMetre();
        turnsByTheShorterWay();
        noWayAtAll();
        verdictsInTheirOrder();
        verdictsOfOneStep();
        verdictsStepByStep();
        aboveCapacity();
        wornAtEighty();
        clashAsTheOtherStands();
        doneMovesAndWears();
        refusedMovesNothing();
        leastCapacityOfItsWay();
        partsAreRoundedUp();
        tandemAtItsCapacity();
        tandemByItsRadius();
        tandemVerdictsInOrder();
        tandemAtWornRopes();
        tandemMovesNothing();
        check.end();
    }

    /** "A LIFT by a crane with a load (1 to 199)" */
    private static void loadFromOneTo199() {
        Slewfree x = new Slewfree();
        x.crane(40, 4);
        x.table(0, 99, 99, 99, 99);
        int[] loads = {1, 2, 192, 193, 194, 198, 199};
        for (int load : loads) {
            int due = load > 193 ? 3 : 0;
            check.due("would of load " + load, x.would(0, load, 10, 10, 0, false), due);
            check.due("its step", x.would(0, load, 10, 10, 0, true), due == 3 ? 0 : -1);
            check.due("lift of load " + load, x.lift(0, load, 10, 10, 0), due);
            check.due("load of its page", x.page(x.site(12) - 1, 3), load);
            check.due("WEAR", x.rope(0), due == 3 ? 0 : load + 1);
        }
    }

    /** "from a radius to another radius" (10 to its REACH) */
    private static void radiusFromTenToReach() {
        int[] reaches = {10, 11, 25, 39, 40};
        for (int reach : reaches) {
            Slewfree x = new Slewfree();
            x.crane(reach, 2);
            x.table(0, 9, 9, 9, 9);
            check.due("out to " + reach, x.lift(0, 1, 10, reach, 0), 0);
            check.due("RADIUS", x.ofCrane(0, 3), reach);
            check.due("in from " + reach, x.lift(0, 1, reach, 10, 0), 0);
            check.due("RADIUS", x.ofCrane(0, 3), 10);
            check.due("all the way at " + reach, x.lift(0, 1, reach, reach, 0), 0);
            check.due("RADIUS", x.ofCrane(0, 3), reach);
            check.due("sound", x.isSound(), true);
        }
    }

    /** "and to an ANGLE" (0 to 23) */
    private static void angleFrom0To23() {
        Slewfree x = Sites.of(1);
        int[] angles = {23, 0, 1, 22, 23, 12, 0, 11, 23, 0};
        for (int angle : angles) {
            check.due("to " + angle, x.lift(0, 1, 10, 10, angle), 0);
            check.due("ANGLE", x.ofCrane(0, 2), angle);
            check.due("jibs", x.jibs(), "L" + angle);
        }
    }

    /** "the first step is the crane as it stands, with that first radius" */
    private static void firstStepIsAsItStands() {
        Slewfree x = Sites.of(2);
        x.lift(0, 1, 10, 30, 4);
        check.due("its RADIUS of 30 does not matter", x.would(0, 80, 10, 10, 4, false), 0);
        check.due("that first radius does", x.would(0, 80, 11, 10, 4, true), 0);
        check.due("that first radius bears less", x.would(0, 80, 11, 10, 4, false), 3);
        x.zone(0, 4, 4, 0, 24);
        check.due("shut as it stands", x.would(0, 1, 10, 12, 6, false), 4);
        check.due("at step 0", x.would(0, 1, 10, 12, 6, true), 0);
        Slewfree y = Sites.of(2);
        y.meeting(0, 0, 1, 0);
        check.due("clashes as it stands", y.would(0, 1, 10, 12, 6, false), 5);
        check.due("at step 0", y.would(0, 1, 10, 12, 6, true), 0);
        check.due("nor may the other one", y.would(1, 1, 10, 10, 6, true), 0);
    }

    /** "then its radius changes metre by metre; then it turns" */
    private static void radiusChangesMetreByMetre() {
        for (int from = 10; from <= 40; from++) {
            for (int to = 10; to <= 40; to++) {
                Slewfree x = Sites.of(1);
                x.zone(0, 3, 3, 0, 24);
                int metres = from < to ? to - from : from - to;
                String what = "from " + from + " to " + to;
                check.due("step of the turn " + what, x.would(0, 1, from, to, 3, true), metres + 3);
                check.due("lift " + what, x.lift(0, 1, from, to, 2), 0);
                check.due("RADIUS " + what, x.ofCrane(0, 3), to);
            }
        }
        Slewfree x = new Slewfree();
        x.crane(40, 2);
        x.table(0, 99, 79, 59, 39);
        for (int radius = 11; radius <= 40; radius++) {
            int bears = 119 - 2 * radius;
            check.due("outward, refused at " + radius, x.would(0, bears + 1, 10, 40, 5, true), radius - 10);
            check.due("outward, as far as " + radius, x.would(0, bears, 10, radius, 5, true), -1);
            check.due("inward, refused at " + radius, x.would(0, bears + 1, radius, 10, 5, true), 0);
            check.due("inward, as far as " + radius, x.would(0, bears, radius, 10, 5, true), -1);
        }
    }

    /** "then it turns by the SHORTER WAY, ANGLE by ANGLE" */
    private static void turnsByTheShorterWay() {
        for (int from = 0; from < 24; from++) {
            for (int to = 0; to < 24; to++) {
                boolean[] isOnWay = new boolean[24];
                int[] steps = new int[24];
                int step = 0;
                for (int angle = from; angle != to; angle = Ring.next(angle, to)) {
                    isOnWay[angle] = true;
                    steps[angle] = step;
                    step++;
                }
                isOnWay[to] = true;
                steps[to] = step;
                for (int shut = 0; shut < 24; shut++) {
                    Slewfree x = Sites.of(1);
                    x.lift(0, 1, 10, 10, from);
                    x.zone(0, shut, shut, 0, 24);
                    String what = "from " + from + " to " + to + " by " + shut;
                    check.due("VERDICT " + what, x.would(0, 1, 12, 10, to, false), isOnWay[shut] ? 4 : 0);
                    int due = !isOnWay[shut] ? -1 : shut == from ? 0 : 2 + steps[shut];
                    check.due("step " + what, x.would(0, 1, 12, 10, to, true), due);
                }
            }
        }
    }

    /** One step alone, if neither radius nor ANGLE changes. */
    private static void noWayAtAll() {
        Slewfree x = Sites.of(2);
        check.due("done", x.would(0, 80, 10, 10, 0, false), 0);
        check.due("no step", x.would(0, 80, 10, 10, 0, true), -1);
        check.due("too heavy", x.would(0, 81, 10, 10, 0, true), 0);
        x.zone(0, 1, 23, 0, 24);
        x.meeting(0, 1, 1, 0);
        check.due("done between zones", x.lift(0, 80, 10, 10, 0), 0);
        check.due("least CAPACITY", x.page(0, 6), 80);
    }

    /** "VERDICT 1, if its jib is FREE; 2, if its ROPE is WORN; otherwise, step by step ..." */
    private static void verdictsInTheirOrder() {
        Slewfree x = refusedByAll();
        verdictIs(x, "all apply", 1, -1);
        x.lock(0, true);
        verdictIs(x, "but for the jib", 2, -1);
        x.rope(0);
        verdictIs(x, "but for the ROPE", 3, 0);
        x.table(0, 99, 99, 99, 99);
        verdictIs(x, "but for the load", 4, 0);
        x.pass(60);
        verdictIs(x, "but for the ZONE", 5, 0);
        x.lock(1, false);
        x.wind(3, 0, 1);
        x.pass(1);
        verdictIs(x, "but for the MEETING", 0, -1);
    }

    private static Slewfree refusedByAll() {
        Slewfree x = Sites.of(2);
        x.table(0, 99, 99, 99, 99);
        x.lift(0, 99, 10, 10, 0);
        x.lift(0, 99, 10, 10, 0);
        x.table(0, 0, 0, 0, 0);
        x.zone(0, 0, 23, 0, 1);
        x.meeting(0, 0, 1, 0);
        x.lock(0, false);
        return x;
    }

    private static void verdictIs(Slewfree x, String what, int verdict, int step) {
        check.due("VERDICT, " + what, x.would(0, 10, 10, 14, 3, false), verdict);
        check.due("step, " + what, x.would(0, 10, 10, 14, 3, true), step);
    }

    /** "the first of these that is so at a step: 3 ...; 4 ...; 5" */
    private static void verdictsOfOneStep() {
        for (int reasons = 0; reasons < 8; reasons++) {
            Slewfree x = Sites.of(2);
            boolean isHeavy = reasons % 2 == 1;
            boolean isShut = reasons / 2 % 2 == 1;
            boolean isMet = reasons / 4 == 1;
            if (isShut) {
                x.zone(0, 0, 0, 0, 24);
            }
            if (isMet) {
                x.meeting(1, 0, 0, 0);
            }
            int due = isHeavy ? 3 : isShut ? 4 : isMet ? 5 : 0;
            check.due("of one step", x.lift(0, isHeavy ? 81 : 80, 10, 10, 0), due);
        }
    }

    /** "otherwise, step by step": what comes at an earlier step is the VERDICT, whichever it is. */
    private static void verdictsStepByStep() {
        stepByStep("5 at the first step, 3 at the second", new int[] {0}, new int[] {}, 80, 11, 0, 5, 0);
        stepByStep("4 at the first step, 3 at the second", new int[] {}, new int[] {0}, 80, 11, 0, 4, 0);
        stepByStep("3 at the last metre, 4 at the first turn", new int[] {}, new int[] {1}, 60, 21, 1, 3, 11);
        stepByStep("5 at the first turn, 4 at the second", new int[] {1}, new int[] {2}, 60, 20, 2, 5, 11);
        stepByStep("4 at the first turn, 5 at the second", new int[] {2}, new int[] {1}, 60, 20, 2, 4, 11);
        stepByStep("4 and 5 at the last turn", new int[] {22}, new int[] {22}, 60, 20, 22, 4, 12);
        stepByStep("5 at the last turn", new int[] {22}, new int[] {21}, 60, 20, 22, 5, 12);
        stepByStep("4 behind the last turn", new int[] {20}, new int[] {21}, 60, 20, 22, 0, -1);
    }

    private static void stepByStep(String what, int[] meets, int[] shuts, int load, int to, int angle, int verdict,
            int step) {
        Slewfree x = Sites.of(2);
        for (int meet : meets) {
            x.meeting(0, meet, 1, 0);
        }
        for (int shut : shuts) {
            x.zone(0, shut, shut, 0, 24);
        }
        check.due("step: " + what, x.would(0, load, 10, to, angle, true), step);
        check.due("VERDICT: " + what, x.would(0, load, 10, to, angle, false), verdict);
        check.due("lift: " + what, x.lift(0, load, 10, to, angle), verdict);
    }

    /** "3, if the load is above CAPACITY at that radius" */
    private static void aboveCapacity() {
        int[] winds = {8, 9, 12};
        for (int wind : winds) {
            Slewfree x = Sites.inWind(1, wind);
            int bears = 40 - (wind - 8);
            check.due("as much as CAPACITY", x.lift(0, bears, 10, 30, 0), 0);
            check.due("1 more", x.lift(0, bears + 1, 10, 30, 0), 3);
            check.due("its step", x.would(0, bears + 1, 10, 30, 0, true), 20);
            check.due("nor at a radius that it only comes by", x.lift(0, bears + 1, 30, 10, 0), 3);
            check.due("its step", x.would(0, bears + 1, 30, 10, 0, true), 0);
            check.due("1 metre less", x.lift(0, bears + 1, 10, 29, 0), 0);
        }
        Slewfree none = new Slewfree();
        none.crane(10, 4);
        none.table(0, 2, 0, 0, 0);
        check.due("1 by CAPACITY 0", none.lift(0, 1, 10, 10, 0), 3);
        none.table(0, 3, 0, 0, 0);
        check.due("1 by CAPACITY 1", none.lift(0, 1, 10, 10, 0), 0);
    }

    private static void wornAtEighty() {
        Slewfree x = new Slewfree();
        x.crane(10, 4);
        x.table(0, 99, 0, 0, 0);
        check.due("to WEAR 79", x.lift(0, 78, 10, 10, 0), 0);
        check.due("by WEAR 79", x.would(0, 193, 10, 10, 0, false), 0);
        x.rope(0);
        check.due("to WEAR 80", x.lift(0, 79, 10, 10, 0), 0);
        check.due("by WEAR 80", x.lift(0, 1, 10, 10, 0), 2);
        check.due("its step", x.would(0, 1, 10, 10, 0, true), -1);
        x.rope(0);
        check.due("by a new one", x.lift(0, 1, 10, 10, 0), 0);
    }

    /** "5, if it would CLASH there with another one as that one stands" */
    private static void clashAsTheOtherStands() {
        Slewfree x = Sites.of(2);
        x.meeting(0, 4, 1, 9);
        check.due("the other one is elsewhere", x.lift(0, 1, 10, 10, 6), 0);
        check.due("to its ANGLE", x.lift(1, 1, 10, 10, 9), 0);
        check.due("back through the meeting", x.lift(0, 1, 10, 10, 0), 5);
        check.due("at its step", x.would(0, 1, 10, 10, 0, true), 2);
        check.due("up to it", x.lift(0, 1, 10, 10, 5), 0);
        check.due("the other one may stay", x.lift(1, 1, 10, 10, 9), 0);
        x.lock(1, false);
        check.due("though the other one is FREE", x.lift(0, 1, 10, 10, 4), 5);
        x.wind(3, 0, 10);
        x.pass(1);
        check.due("the wind has turned it away", x.lift(0, 1, 10, 10, 4), 0);
        x.wind(3, 0, 9);
        x.pass(1);
        check.due("jibs that the wind has turned may CLASH", x.jibs(), "L4 F9");
        check.due("then none of both may go", x.would(0, 1, 10, 10, 3, true), 0);
        x.lock(1, true);
        check.due("nor the other one", x.lift(1, 1, 10, 10, 8), 5);
    }

    /** "and 0, DONE, if none was: then ANGLE and RADIUS are those of the last step, ROPE wears" */
    private static void doneMovesAndWears() {
        Slewfree x = Sites.of(3);
        check.due("done", x.lift(1, 20, 33, 14, 23), 0);
        check.due("jibs", x.jibs(), "L0 L23 L0");
        check.due("RADIUS", x.ofCrane(1, 3), 14);
        check.due("WEAR", x.ofCrane(1, 5), 11);
        check.due("DONE", x.ofCrane(1, 9), 1);
        for (int i = 0; i < 3; i += 2) {
            check.due("RADIUS of another", x.ofCrane(i, 3), 10);
            check.due("WEAR of another", x.ofCrane(i, 5), 0);
            check.due("DONE of another", x.ofCrane(i, 9), 0);
        }
        check.due("MINUTE", x.site(0), 0);
    }

    private static void refusedMovesNothing() {
        Slewfree x = refusedByAll();
        int wear = x.ofCrane(0, 5);
        refused(x, 1, wear);
        x.lock(0, true);
        refused(x, 2, wear);
        x.rope(0);
        refused(x, 3, 0);
        x.table(0, 99, 99, 99, 99);
        refused(x, 4, 0);
        x.pass(60);
        refused(x, 5, 0);
    }

    private static void refused(Slewfree x, int verdict, int wear) {
        int pages = x.site(12);
        check.due("lift", x.lift(0, 10, 10, 14, 3), verdict);
        check.due("ANGLE behind VERDICT " + verdict, x.ofCrane(0, 2), 0);
        check.due("RADIUS behind VERDICT " + verdict, x.ofCrane(0, 3), 10);
        check.due("WEAR behind VERDICT " + verdict, x.ofCrane(0, 5), wear);
        check.due("DONE behind VERDICT " + verdict, x.ofCrane(0, 9), 2);
        check.due("page of VERDICT " + verdict, x.page(pages, 4), verdict);
        check.due("least CAPACITY of VERDICT " + verdict, x.page(pages, 6), -1);
    }

    /** "of a LIFT that is DONE the least CAPACITY of its way, as it was then" */
    private static void leastCapacityOfItsWay() {
        leastIs("at the last step", 1, 10, 33, 34);
        leastIs("at the first step", 1, 33, 10, 34);
        leastIs("of one step", 1, 15, 15, 70);
        leastIs("as much as the load", 34, 10, 33, 34);
        leastIs("at the last metre of the reach", 20, 40, 39, 20);
        Slewfree x = Sites.inWind(1, 11);
        x.lift(0, 1, 10, 20, 0);
        check.due("by wind 11", x.page(0, 6), 57);
        Sites.blow(x, 0);
        x.table(0, 9, 9, 9, 9);
        check.due("as it was then", x.page(0, 6), 57);
    }

    private static void leastIs(String what, int load, int from, int to, int due) {
        Slewfree x = Sites.of(1);
        check.due("lift", x.lift(0, load, from, to, 13), 0);
        check.due("least CAPACITY " + what, x.page(0, 6), due);
    }

    /** "the first one bears load * part / 10, the other one load * (10 - part) / 10, each rounded up" */
    private static void partsAreRoundedUp() {
        int[][] rows = {{1, 1, 1, 1}, {1, 9, 1, 1}, {10, 1, 1, 9}, {10, 9, 9, 1}, {11, 1, 2, 10}, {9, 1, 1, 9},
            {199, 1, 20, 180}, {199, 9, 180, 20}, {199, 5, 100, 100}, {198, 5, 99, 99}, {15, 5, 8, 8}, {20, 5, 10, 10},
            {19, 3, 6, 14}, {100, 7, 70, 30}, {101, 7, 71, 31}};
        for (int[] row : rows) {
            Slewfree x = new Slewfree();
            x.crane(10, 4);
            x.crane(40, 4);
            x.table(0, 99, 99, 99, 99);
            x.table(1, 99, 99, 99, 99);
            String what = row[0] + " by " + row[1] + " tenths";
            check.due("tandem of " + what, x.tandem(0, 1, row[0], row[1]), 0);
            check.due("the first one's WEAR of " + what, x.rope(0), row[2] + 1);
            check.due("the other one's WEAR of " + what, x.rope(1), row[3] + 1);
            check.due("load of its page", x.page(0, 3), row[0]);
            check.due("turned round " + what, x.tandem(1, 0, row[0], row[1]), 0);
            check.due("the first one's WEAR of " + what, x.rope(1), row[2] + 1);
            check.due("the other one's WEAR of " + what, x.rope(0), row[3] + 1);
        }
        Slewfree two = Sites.of(2);
        two.tandem(0, 1, 19, 3);
        check.due("6 by 2 falls", two.rope(0), 4);
        check.due("14 by 2 falls", two.rope(1), 8);
        two.tandem(0, 1, 30, 1);
        check.due("3 by 2 falls", two.rope(0), 2);
        check.due("27 by 2 falls", two.rope(1), 14);
    }

    /** "3, if one bears more than its CAPACITY at its RADIUS" */
    private static void tandemAtItsCapacity() {
        int[][] rows = {{20, 99, 100, 2, 0}, {20, 99, 101, 2, 3}, {99, 20, 100, 8, 0}, {99, 20, 101, 8, 3},
            {50, 50, 100, 5, 0}, {50, 50, 101, 5, 3}, {49, 50, 100, 5, 3}, {50, 49, 100, 5, 3}, {0, 99, 1, 1, 3},
            {99, 0, 1, 9, 3}, {1, 1, 1, 5, 0}, {0, 0, 1, 5, 3}};
        for (int[] row : rows) {
            Slewfree x = Sites.of(2);
            x.table(0, row[0], 0, 0, 0);
            x.table(1, row[1], 0, 0, 0);
            String what = row[2] + " by " + row[3] + " tenths with " + row[0] + " and " + row[1];
            check.due("tandem of " + what, x.tandem(0, 1, row[2], row[3]), row[4]);
            check.due("page of " + what, x.page(0, 4), row[4]);
            if (row[4] != 0) {
                check.due("no WEAR, the first", x.ofCrane(0, 5), 0);
                check.due("no WEAR, the other", x.ofCrane(1, 5), 0);
            }
        }
    }

    private static void tandemByItsRadius() {
        Slewfree x = Sites.of(2);
        x.lift(0, 1, 10, 40, 0);
        x.lift(1, 1, 10, 31, 0);
        check.due("20 at 40 metres", x.tandem(0, 1, 40, 5), 0);
        check.due("21 at 40 metres", x.tandem(0, 1, 41, 5), 3);
        check.due("38 at 31 metres", x.tandem(0, 1, 42, 1), 0);
        check.due("39 at 31 metres", x.tandem(0, 1, 43, 1), 3);
        x.rope(0);
        x.rope(1);
        Sites.blow(x, 12);
        check.due("16 by wind 12", x.tandem(0, 1, 32, 5), 0);
        check.due("17 by wind 12", x.tandem(1, 0, 33, 5), 3);
    }

    /** "VERDICT 1, if one of both jibs is FREE; 2, if one of both ROPES is WORN; 3 ...; otherwise 0" */
    private static void tandemVerdictsInOrder() {
        for (int reasons = 0; reasons < 32; reasons++) {
            Slewfree x = Sites.of(2);
            int verdict = 0;
            int load = 1;
            if (reasons >= 16) {
                load = 161;
                verdict = 3;
            }
            for (int i = 0; i < 2; i++) {
                if ((reasons >> i) % 2 == 1) {
                    x.lift(i, 79, 10, 10, 0);
                    x.lift(i, 78, 10, 10, 0);
                    verdict = 2;
                }
            }
            for (int i = 0; i < 2; i++) {
                if ((reasons >> (2 + i)) % 2 == 1) {
                    x.lock(i, false);
                    verdict = 1;
                }
            }
            check.due("tandem by reasons " + reasons, x.tandem(0, 1, load, 5), verdict);
            check.due("its VERDICT", x.page(x.site(12) - 1, 4), verdict);
        }
    }

    private static void tandemAtWornRopes() {
        for (int last = 77; last <= 79; last++) {
            for (int worn = 0; worn < 2; worn++) {
                Slewfree x = new Slewfree();
                x.crane(10, 4);
                x.crane(10, 4);
                x.table(0, 99, 0, 0, 0);
                x.table(1, 99, 0, 0, 0);
                x.lift(worn, last, 10, 10, 0);
                check.due("tandem by WEAR " + (last + 1), x.tandem(0, 1, 1, 1), last + 1 >= 80 ? 2 : 0);
                check.due("WEAR behind it", x.ofCrane(worn, 5), last + 1 >= 80 ? 80 : last + 3);
            }
        }
        Slewfree x = Sites.of(2);
        x.table(0, 99, 99, 99, 99);
        x.table(1, 99, 99, 99, 99);
        check.due("a tandem wears", x.tandem(0, 1, 158, 5), 0);
        check.due("once more", x.tandem(0, 1, 156, 5), 0);
        check.due("to 80", x.ofCrane(1, 5), 80);
        check.due("no LIFT by that", x.lift(1, 1, 10, 10, 0), 2);
    }

    /** "(nothing moves, no ZONE and no MEETING matters)" */
    private static void tandemMovesNothing() {
        Slewfree x = Sites.of(2);
        x.lift(0, 1, 10, 14, 5);
        x.lift(1, 1, 10, 17, 6);
        x.zone(0, 0, 23, 0, 24);
        x.zone(1, 0, 23, 0, 24);
        x.meeting(0, 5, 1, 6);
        check.due("done", x.tandem(0, 1, 20, 5), 0);
        check.due("jibs", x.jibs(), "L5 L6");
        check.due("RADIUS of the first", x.ofCrane(0, 3), 14);
        check.due("RADIUS of the other", x.ofCrane(1, 3), 17);
        check.due("LIFTS of the first, no TANDEMS", x.ofCrane(0, 9), 1);
        check.due("LIFTS of the other, no TANDEMS", x.ofCrane(1, 9), 1);
        check.due("a LIFT would be refused there", x.would(0, 1, 10, 10, 5, false), 4);
        check.due("no least CAPACITY", x.page(2, 6), -1);
    }
}
