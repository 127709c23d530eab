/** "4. The log": each sentence that names an edge, at the last value on its one side and the first on the other. */
public final class LogEdgesTest {
    private static final Check check = new Check();

    public static void main(String[] args) {
        noPagesAtFirst();
        pagesByKind();
        pagesThatAreNotWritten();
        sealsByEachPart();
        sealsByTheirModulo();
        sealBehindATornPage();
        sealBehindAllTornPages();
        pagesUpToForty();
        doneWithoutAPage();
        tornMakesRoomForOne();
        tornAtEachPlace();
        tornOutOfForty();
        followsByPlace();
        followsByChance();
        faultIsTheFirst();
        neverWholeAgain();
        refusedAtAnyHour();
        check.end();
    }

    private static void noPagesAtFirst() {
        Slewfree x = new Slewfree();
        logIs(x, "at first", 0, 0, -1);
        Slewfree y = Sites.full();
        for (int page = 39; page >= 0; page--) {
            y.tear(page);
        }
        logIs(y, "all torn out from behind", 0, 40, -1);
    }

    /** PAGES, how many were written, FAULT; the LOG is WHOLE, if there is no FAULT and none is missing. */
    private static void logIs(Slewfree x, String what, int pages, int written, int fault) {
        check.due("PAGES, " + what, x.site(12), pages);
        check.due("written, " + what, x.site(13), written);
        check.due("WHOLE, " + what, x.site(14), fault == -1 && pages == written ? 1 : 0);
        check.due("FAULT, " + what, x.site(15), fault);
        check.due("sound, " + what, x.isSound(), true);
    }

    /** "KIND 0 a LIFT, 1 a TANDEM ..., 2 a jib that became FREE by WIND ..., 3 one that was LOCKED, 4 ... set FREE" */
    private static void pagesByKind() {
        Slewfree x = Sites.inWind(3, 12);
        x.lift(2, 199, 10, 10, 0);
        x.tandem(2, 1, 30, 9);
        x.lock(2, false);
        x.lock(2, true);
        x.lock(0, false);
        x.lock(1, false);
        Sites.blow(x, 30);
        x.lift(2, 1, 10, 10, 0);
        x.tandem(1, 2, 199, 1);
        int[][] due = {{0, 2, 12, 199, 3}, {1, 2, 12, 30, 0}, {4, 2, 12, 0, 0}, {3, 2, 12, 0, 0}, {4, 0, 12, 0, 0},
            {4, 1, 12, 0, 0}, {2, 2, 30, 0, 0}, {0, 2, 30, 1, 1}, {1, 1, 30, 199, 1}};
        check.due("PAGES", x.site(12), due.length);
        int seal = 1;
        for (int page = 0; page < due.length; page++) {
            for (int what = 0; what <= 4; what++) {
                check.due("page(" + page + ", " + what + ")", x.page(page, what), due[page][what]);
            }
            seal = dueSeal(seal, due[page]);
            check.due("SEAL of page " + page, x.page(page, 5), seal);
            check.due("least CAPACITY of page " + page, x.page(page, 6), -1);
        }
    }

    private static int dueSeal(int ahead, int... page) {
        int sum = 31 * ahead + 7 * page[0] + 5 * page[1] + 3 * page[2] + page[3] + 11 * page[4];
        while (sum >= 9973) {
            sum -= 9973;
        }
        return sum;
    }

    /** "(a page is written, if it was not so already)"; calls that write none. */
    private static void pagesThatAreNotWritten() {
        Slewfree x = Sites.of(2);
        check.due("LOCKED already", x.lock(0, true), true);
        logIs(x, "LOCKED already", 0, 0, -1);
        check.due("set FREE", x.lock(0, false), true);
        check.due("FREE already", x.lock(0, false), false);
        logIs(x, "FREE already", 1, 1, -1);
        Sites.blow(x, 13);
        logIs(x, "by storm, the one that was LOCKED", 2, 2, -1);
        check.due("FREE already by storm", x.lock(1, false), false);
        x.pass(10);
        logIs(x, "by the same storm", 2, 2, -1);
        x.crane(10, 2);
        x.zone(0, 1, 2, 3, 4);
        x.meeting(0, 1, 2, 3);
        x.rope(0);
        x.knock();
        x.would(0, 1, 10, 10, 0, false);
        x.digest();
        logIs(x, "by others", 2, 2, -1);
        x.tear(0);
        logIs(x, "by tearing", 1, 2, 0);
    }

    /** "(31 * SEAL of the page ahead + 7 * KIND + 5 * crane + 3 * WIND + load + 11 * VERDICT) ...; ahead ... is 1" */
    private static void sealsByEachPart() {
        Slewfree x = Sites.of(3);
        x.lift(0, 1, 10, 10, 0);
        check.due("of load 1", x.page(0, 5), 32);
        Slewfree heavy = Sites.of(3);
        heavy.lift(0, 199, 10, 10, 0);
        check.due("of load 199, VERDICT 3", heavy.page(0, 5), 31 + 199 + 33);
        Slewfree third = Sites.of(3);
        third.lift(2, 1, 10, 10, 0);
        check.due("of crane 2", third.page(0, 5), 31 + 10 + 1);
        Slewfree free = Sites.of(3);
        free.lock(0, false);
        check.due("of KIND 4", free.page(0, 5), 31 + 28);
        free.lock(0, true);
        check.due("of KIND 3", free.page(1, 5), 31 * 59 + 21);
        Slewfree windy = Sites.inWind(1, 12);
        windy.lift(0, 1, 10, 10, 0);
        check.due("of WIND 12", windy.page(0, 5), 31 + 36 + 1);
        Slewfree shut = Sites.of(2);
        shut.zone(0, 0, 0, 0, 24);
        shut.meeting(0, 1, 1, 0);
        shut.lift(0, 1, 10, 10, 0);
        check.due("of VERDICT 4", shut.page(0, 5), 31 + 1 + 44);
        Slewfree storm = Sites.inWind(1, 30);
        check.due("of KIND 2, WIND 30", storm.page(0, 5), 31 + 14 + 90);
        Slewfree both = Sites.of(2);
        both.tandem(1, 0, 7, 2);
        check.due("of KIND 1", both.page(0, 5), 31 + 7 + 5 + 7);
    }

    /** "modulo 9973": 9972, 0 and 1 of it, and what follows from them. */
    private static void sealsByTheirModulo() {
        int[] loads = {127, 128, 129};
        int[] seals = {9972, 0, 1};
        for (int i = 0; i < loads.length; i++) {
            Slewfree x = freeByStorm(23);
            x.lift(1, 199, 10, 10, 0);
            check.due("ahead of it", x.page(0, 5), 315);
            x.lift(0, loads[i], 10, 10, 0);
            check.due("SEAL", x.page(1, 5), seals[i]);
            x.lift(0, 1, 10, 10, 0);
            check.due("behind " + seals[i], x.page(2, 5), dueSeal(seals[i], 0, 0, 23, 1, 1));
            logIs(x, "with SEAL " + seals[i], 3, 3, -1);
            x.tear(2);
            x.tear(1);
            x.lift(0, 1, 10, 10, 0);
            check.due("behind a torn page", x.page(1, 5), dueSeal(dueSeal(seals[i], 0, 0, 23, 1, 1), 0, 0, 23, 1, 1));
        }
    }

    /** Two cranes that came by that storm, so that no page tells of it. */
    private static Slewfree freeByStorm(int wind) {
        Slewfree x = new Slewfree();
        Sites.blow(x, wind);
        x.crane(10, 2);
        x.crane(10, 2);
        return x;
    }

    /** "the page ahead is that which was written last, also if it was torn out" */
    private static void sealBehindATornPage() {
        for (int torn = 0; torn < 3; torn++) {
            Slewfree x = siteOfLifts(3);
            int last = x.page(2, 5);
            x.tear(torn);
            x.lift(0, 9, 10, 10, 0);
            check.due("page " + torn + " torn out", x.page(2, 5), dueSeal(last, 0, 0, 0, 9, 0));
            x.tear(2);
            x.lift(0, 8, 10, 10, 0);
            check.due("and the new one", x.page(2, 5), dueSeal(dueSeal(last, 0, 0, 0, 9, 0), 0, 0, 0, 8, 0));
        }
    }

    private static void sealBehindAllTornPages() {
        Slewfree x = siteOfLifts(2);
        int last = x.page(1, 5);
        x.tear(0);
        x.tear(0);
        x.lift(0, 9, 10, 10, 0);
        check.due("not as the first one", x.page(0, 5), dueSeal(last, 0, 0, 0, 9, 0));
        logIs(x, "the only page that is left", 1, 3, 0);
    }

    /** LIFTS with loads 1, 2, 3 and so on, a page each; the ropes are renewed. */
    private static Slewfree siteOfLifts(int lifts) {
        Slewfree x = Sites.of(3);
        for (int load = 1; load <= lifts; load++) {
            x.lift(0, load, 10, 10 + load % 20, 0);
            x.rope(0);
        }
        return x;
    }

    /** "PAGES, at most 40, numbered from 0 as they are written"; "As long as there are 40 PAGES none is written" */
    private static void pagesUpToForty() {
        Slewfree x = Sites.of(1);
        int seal = 1;
        for (int load = 1; load <= 45; load++) {
            check.due("lift " + load, x.lift(0, load, 10, 10, 0), 0);
            x.rope(0);
            logIs(x, load + " LIFTS", Math.min(load, 40), Math.min(load, 40), -1);
            if (load <= 40) {
                seal = dueSeal(seal, 0, 0, 0, load, 0);
                check.due("load of page " + (load - 1), x.page(load - 1, 3), load);
                check.due("SEAL of page " + (load - 1), x.page(load - 1, 5), seal);
            }
        }
        check.due("the last page", x.page(39, 3), 40);
        check.due("the first page", x.page(0, 3), 1);
        check.due("LIFTS that were DONE ever", x.ofCrane(0, 9), 45);
    }

    /** "(what it is about is done all the same)" */
    private static void doneWithoutAPage() {
        Slewfree x = Sites.full();
        long seals = x.page(39, 5);
        check.due("a LIFT", x.lift(0, 10, 10, 20, 5), 0);
        check.due("jibs", x.jibs(), "L5 L0 L0");
        check.due("RADIUS", x.ofCrane(0, 3), 20);
        check.due("WEAR", x.ofCrane(0, 5), 6);
        check.due("DONE", x.ofCrane(0, 9), 1);
        check.due("a LIFT that is refused", x.lift(0, 81, 10, 20, 5), 3);
        check.due("a TANDEM", x.tandem(1, 2, 20, 5), 0);
        check.due("WEAR of both", x.ofCrane(1, 5) + x.ofCrane(2, 5), 12);
        check.due("a TANDEM that is refused", x.tandem(1, 2, 199, 5), 3);
        check.due("set FREE", x.lock(1, false), true);
        check.due("jibs", x.jibs(), "L5 F0 L0");
        check.due("LOCKED", x.lock(1, true), false);
        check.due("jibs", x.jibs(), "L5 L0 L0");
        Sites.blow(x, 13);
        check.due("FREE by WIND", x.jibs(), "F4 F0 F0");
        check.due("LOST", x.site(7), 1);
        logIs(x, "full still", 40, 40, -1);
        check.due("the last page", x.page(39, 5) == seals, true);
    }

    /** "one that is TORN out makes room" */
    private static void tornMakesRoomForOne() {
        for (int torn = 0; torn < 40; torn += 13) {
            Slewfree x = Sites.full();
            int last = x.page(39, 5);
            x.lift(0, 3, 10, 10, 0);
            x.tear(torn);
            logIs(x, "39 left", 39, 40, torn == 39 ? -1 : torn);
            x.lift(0, 4, 10, 10, 0);
            check.due("load of the new one", x.page(39, 3), 4);
            check.due("its SEAL is behind the last that was written", x.page(39, 5), dueSeal(last, 0, 0, 0, 4, 0));
            logIs(x, "40 again", 40, 41, torn);
            x.lift(0, 5, 10, 10, 0);
            check.due("load of the last one still", x.page(39, 3), 4);
            logIs(x, "no more room", 40, 41, torn);
        }
    }

    /** "it is gone, those behind have smaller numbers then (their SEALS stay)" */
    private static void tornAtEachPlace() {
        for (int pages = 1; pages <= 6; pages++) {
            for (int torn = 0; torn < pages; torn++) {
                Slewfree x = siteOfLifts(pages);
                int[][] was = allOf(x);
                check.due("its SEAL", x.tear(torn), was[torn][5]);
                check.due("PAGES", x.site(12), pages - 1);
                int[][] is = allOf(x);
                for (int page = 0; page < pages - 1; page++) {
                    for (int what = 0; what <= 6; what++) {
                        check.due("page(" + page + ", " + what + ") of " + pages + ", " + torn + " torn out",
                                is[page][what], was[page < torn ? page : page + 1][what]);
                    }
                }
                logIs(x, torn + " torn out of " + pages, pages - 1, pages, torn == pages - 1 ? -1 : torn);
            }
        }
    }

    private static int[][] allOf(Slewfree x) {
        int[][] all = new int[x.site(12)][7];
        for (int page = 0; page < all.length; page++) {
            for (int what = 0; what <= 6; what++) {
                all[page][what] = x.page(page, what);
            }
        }
        return all;
    }

    private static void tornOutOfForty() {
        for (int torn = 0; torn < 40; torn++) {
            Slewfree x = siteOfLifts(40);
            int seal = x.page(torn, 5);
            check.due("its SEAL", x.tear(torn), seal);
            for (int page = 0; page < 39; page++) {
                check.due("load of page " + page, x.page(page, 3), page < torn ? page + 1 : page + 2);
            }
            logIs(x, torn + " torn out of 40", 39, 40, torn == 39 ? -1 : torn);
        }
    }

    /** "what comes of the SEAL of the page that is just ahead of it now (of 1, if it is the page 0 now)" */
    private static void followsByPlace() {
        Slewfree x = siteOfLifts(4);
        logIs(x, "none torn out", 4, 4, -1);
        x.tear(3);
        logIs(x, "the last torn out", 3, 4, -1);
        x.tear(1);
        logIs(x, "one in between", 2, 4, 1);
        x.tear(1);
        logIs(x, "the one that did not follow", 1, 4, -1);
        x.lift(0, 9, 10, 10, 0);
        logIs(x, "one that follows a torn one", 2, 5, 1);
        x.tear(0);
        logIs(x, "it is the page 0 now", 1, 5, 0);
        x.tear(0);
        logIs(x, "none is left", 0, 5, -1);
    }

    /** A page that is torn out of the middle, and had the same SEAL as the one ahead of it: all FOLLOW still. */
    private static void followsByChance() {
        Slewfree x = freeByStorm(28);
        x.lift(1, 199, 10, 10, 0);
        Sites.blow(x, 0);
        x.lift(0, 62, 10, 10, 0);
        x.lift(1, 5, 10, 10, 0);
        check.due("SEAL of page 0", x.page(0, 5), 330);
        check.due("SEAL of page 1", x.page(1, 5), 330);
        logIs(x, "none torn out", 3, 3, -1);
        x.tear(1);
        logIs(x, "FOLLOWS by chance, but one is missing", 2, 3, -1);
        x.tear(0);
        logIs(x, "does not FOLLOW from 1", 1, 3, 0);
    }

    /** "FAULT is the first page whose SEAL does not FOLLOW; NONE, if there is none." */
    private static void faultIsTheFirst() {
        Slewfree x = siteOfLifts(9);
        x.tear(7);
        logIs(x, "at the last page", 8, 9, 7);
        x.tear(4);
        logIs(x, "of two the first", 7, 9, 4);
        x.tear(5);
        logIs(x, "of two that stand apart the first", 6, 9, 4);
        x.tear(0);
        logIs(x, "at the page 0", 5, 9, 0);
        Slewfree full = Sites.full();
        full.tear(38);
        logIs(full, "at the last of 39", 39, 40, 38);
    }

    /** "The LOG is WHOLE, if each SEAL FOLLOWS, and there are as many PAGES as were written." */
    private static void neverWholeAgain() {
        Slewfree x = siteOfLifts(3);
        x.tear(2);
        logIs(x, "two of three", 2, 3, -1);
        x.lift(0, 3, 10, 13, 0);
        logIs(x, "three of four", 3, 4, 2);
        x.tear(2);
        logIs(x, "two of four", 2, 4, -1);
    }

    /** "Who climbs the fence is REFUSED at any HOUR (counted)." */
    private static void refusedAtAnyHour() {
        Slewfree x = Sites.of(1);
        check.due("REFUSED at first", x.site(16), 0);
        for (int hour = 0; hour < 26; hour++) {
            check.due("at hour " + hour, x.knock(), 2 * hour + 1);
            check.due("once more", x.knock(), 2 * hour + 2);
            check.due("REFUSED", x.site(16), 2 * hour + 2);
            x.pass(60);
        }
        x.wind(30, 10, 0);
        x.pass(1);
        check.due("by storm", x.knock(), 53);
        check.due("written", x.site(13), 1);
    }
}
