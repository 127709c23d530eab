/** Promises 10 to 13: lift, tandem, tear, knock. */
public final class LiftsTest {
    private static final Check check = new Check();

    public static void main(String[] args) {
        liftDone();
        liftWearsByFalls();
        liftVerdictsInOrder();
        liftStepByStep();
        liftTooHeavy();
        tandemDone();
        tandemVerdicts();
        pagesAndSeals();
        pagesAreForty();
        pageIsTorn();
        lastPageIsTorn();
        knocks();
        check.end();
    }

    private static void liftDone() {
        Slewfree x = Sites.of(2);
        check.due("10: done", x.lift(1, 20, 15, 40, 13), 0);
        check.due("10: angle", x.ofCrane(1, 2), 13);
        check.due("10: radius", x.ofCrane(1, 3), 40);
        check.due("10: wear", x.ofCrane(1, 5), 11);
        check.due("10: done ever", x.ofCrane(1, 9), 1);
        check.due("10: still locked", x.jibs(), "L0 L13");
        check.due("10: the other radius", x.ofCrane(0, 3), 10);
        check.due("10: the other one's count", x.ofCrane(0, 9), 0);
        int[] due = {0, 1, 0, 20, 0, 31 + 5 + 20, 20};
        for (int what = 0; what <= 6; what++) {
            check.due("10: page(0, " + what + ")", x.page(0, what), due[what]);
        }
        check.due("10: from any radius", x.lift(1, 1, 10, 10, 13), 0);
        check.due("10: its radius", x.ofCrane(1, 3), 10);
        check.due("10: done ever again", x.ofCrane(1, 9), 2);
    }

    private static void liftWearsByFalls() {
        Slewfree x = new Slewfree();
        x.crane(40, 2);
        x.crane(40, 4);
        x.table(0, 99, 99, 99, 99);
        x.table(1, 99, 99, 99, 99);
        x.lift(0, 3, 10, 10, 0);
        check.due("10: 3 by 2 falls", x.ofCrane(0, 5), 2);
        x.lift(0, 1, 10, 10, 0);
        check.due("10: 1 by 2 falls", x.ofCrane(0, 5), 3);
        x.lift(1, 3, 10, 10, 0);
        check.due("10: 3 by 4 falls", x.ofCrane(1, 5), 4);
        x.lift(1, 75, 10, 10, 0);
        check.due("10: wear 80", x.ofCrane(1, 5), 80);
        check.due("10: refused from 80 on", x.lift(1, 1, 10, 10, 0), 2);
        x.rope(1);
        x.lift(1, 78, 10, 10, 0);
        check.due("10: wear 79", x.ofCrane(1, 5), 79);
        check.due("10: not yet by 79", x.lift(1, 193, 10, 40, 0), 0);
        check.due("10: wear 273", x.ofCrane(1, 5), 79 + 194);
    }

    private static void liftVerdictsInOrder() {
        Slewfree x = Sites.of(2);
        x.lift(0, 80, 10, 10, 0);
        x.lift(0, 80, 10, 10, 0);
        check.due("10: worn", x.ofCrane(0, 6), 1);
        x.zone(0, 0, 0, 0, 24);
        x.meeting(0, 0, 1, 0);
        x.lock(0, false);
        check.due("10: free, though worn", x.lift(0, 199, 10, 10, 0), 1);
        x.lock(0, true);
        check.due("10: worn, though too heavy", x.lift(0, 199, 10, 10, 0), 2);
        x.rope(0);
        check.due("10: too heavy, though shut", x.lift(0, 199, 10, 10, 0), 3);
        check.due("10: shut, though clashing", x.lift(0, 80, 10, 10, 0), 4);
        x.pass(60);
        check.due("10: shut still", x.lift(0, 80, 10, 10, 0), 4);
        check.due("10: clashes", x.lift(1, 80, 10, 10, 0), 5);
        check.due("10: nothing has moved", x.jibs(), "L0 L0");
        check.due("10: no wear", x.ofCrane(0, 5), 0);
        check.due("10: not counted", x.ofCrane(0, 9), 2);
        check.due("10: a page each", x.site(13), 10);
        check.due("10: verdict of the page", x.page(9, 4), 5);
        check.due("10: load of the page", x.page(9, 3), 80);
        check.due("10: no least capacity", x.page(9, 6), -1);
    }

    private static void liftStepByStep() {
        Slewfree x = Sites.of(1);
        x.crane(40, 2);
        x.zone(0, 2, 2, 0, 24);
        x.meeting(0, 1, 1, 0);
        check.due("10: an earlier step counts first", x.lift(0, 50, 10, 30, 3), 3);
        check.due("10: of the turn the earlier one", x.lift(0, 40, 10, 30, 3), 5);
        check.due("10: radius first, then angle", x.would(0, 40, 10, 30, 3, true), 21);
        check.due("10: the other way round", x.lift(0, 40, 30, 10, 22), 0);
        check.due("10: its angle", x.ofCrane(0, 2), 22);
        check.due("10: from 22 over 0 on to 2", x.lift(0, 40, 10, 10, 2), 5);
        check.due("10: to 0", x.lift(0, 40, 10, 10, 0), 0);
        check.due("10: 12 steps go by rising angles", x.lift(0, 1, 10, 10, 12), 5);
        check.due("10: 11 by falling ones", x.lift(0, 1, 10, 10, 13), 0);
    }

    private static void liftTooHeavy() {
        Slewfree x = Sites.of(1);
        check.due("10: as much as its capacity", x.lift(0, 46, 27, 27, 0), 0);
        check.due("10: 1 more", x.lift(0, 47, 27, 27, 0), 3);
        check.due("10: radius as it was", x.ofCrane(0, 3), 27);
        check.due("10: the first radius counts", x.lift(0, 70, 28, 10, 0), 3);
        check.due("10: the last radius counts", x.lift(0, 70, 10, 28, 0), 3);
        check.due("10: by its way inward", x.lift(0, 40, 30, 12, 0), 0);
        check.due("10: none of the refused one", x.page(3, 6), -1);
        check.due("10: least capacity of that", x.page(4, 6), 40);
        x.rope(0);
        x.wind(12, 0, 0);
        x.pass(1);
        check.due("10: by the wind of now", x.lift(0, 43, 27, 27, 0), 3);
        check.due("10: less 4 by wind 12", x.lift(0, 42, 27, 27, 0), 0);
        check.due("10: wind of then", x.page(6, 2), 12);
        check.due("10: least capacity of then", x.page(6, 6), 42);
        x.wind(0, 0, 0);
        x.pass(1);
        x.table(0, 1, 1, 1, 1);
        check.due("10: as it was then", x.page(6, 6), 42);
    }

    private static void tandemDone() {
        Slewfree x = new Slewfree();
        x.crane(40, 2);
        x.crane(40, 4);
        x.table(0, 80, 60, 40, 20);
        x.table(1, 50, 40, 30, 20);
        x.zone(0, 0, 23, 0, 24);
        x.meeting(0, 0, 1, 0);
        check.due("11: done, though shut and clashing", x.tandem(1, 0, 57, 3), 0);
        check.due("11: 18 by 4 falls", x.ofCrane(1, 5), 19);
        check.due("11: 40 by 2 falls", x.ofCrane(0, 5), 21);
        check.due("11: no lift by this, first", x.ofCrane(1, 9), 0);
        check.due("11: no lift by this, other", x.ofCrane(0, 9), 0);
        check.due("11: nothing moves", x.jibs(), "L0 L0");
        check.due("11: one page", x.site(13), 1);
        int[] due = {1, 1, 0, 57, 0, 31 + 7 + 5 + 57, -1};
        for (int what = 0; what <= 6; what++) {
            check.due("11: page(0, " + what + ")", x.page(0, what), due[what]);
        }
        x.rope(0);
        x.rope(1);
        check.due("11: by full tenths", x.tandem(0, 1, 100, 7), 0);
        check.due("11: 70 by 2 falls", x.ofCrane(0, 5), 36);
        check.due("11: 30 by 4 falls", x.ofCrane(1, 5), 31);
        check.due("11: a tenth", x.tandem(0, 1, 11, 1), 0);
        check.due("11: 2 by 2 falls", x.ofCrane(0, 5), 38);
        check.due("11: 10 by 4 falls", x.ofCrane(1, 5), 42);
        check.due("11: nine tenths", x.tandem(0, 1, 1, 9), 0);
        check.due("11: 1 by 2 falls", x.ofCrane(0, 5), 39);
        check.due("11: 1 by 4 falls", x.ofCrane(1, 5), 44);
    }

    private static void tandemVerdicts() {
        Slewfree x = Sites.of(3);
        check.due("11: the first one is too weak", x.tandem(0, 1, 99, 9), 3);
        check.due("11: the other one is too weak", x.tandem(0, 1, 101, 2), 3);
        check.due("11: both just bear it", x.tandem(0, 1, 159, 5), 0);
        x.rope(0);
        x.rope(1);
        check.due("11: one more", x.tandem(0, 1, 161, 5), 3);
        x.lift(0, 1, 10, 30, 0);
        x.rope(0);
        check.due("11: at its radius 30", x.tandem(0, 1, 80, 5), 0);
        check.due("11: above it", x.tandem(0, 1, 82, 5), 3);
        check.due("11: above it, as the other one", x.tandem(1, 0, 82, 5), 3);
        x.rope(0);
        x.lift(1, 80, 10, 10, 0);
        x.lift(1, 40, 10, 10, 0);
        check.due("11: the other one is worn", x.tandem(0, 1, 199, 5), 2);
        check.due("11: the first one is worn", x.tandem(1, 0, 1, 5), 2);
        x.lock(2, false);
        check.due("11: the other one is free", x.tandem(1, 2, 199, 5), 1);
        check.due("11: the first one is free", x.tandem(2, 1, 199, 5), 1);
        check.due("11: no wear by refusals", x.ofCrane(0, 5) + x.ofCrane(2, 5), 0);
        check.due("11: its page", x.page(x.site(12) - 1, 1), 2);
        check.due("11: whole load", x.page(x.site(12) - 1, 3), 199);
        check.due("11: verdict", x.page(x.site(12) - 1, 4), 1);
        x.lock(2, true);
        x.rope(1);
        x.wind(10, 0, 0);
        x.pass(1);
        check.due("11: by the wind of now", x.tandem(1, 2, 158, 5), 3);
        check.due("11: less 2", x.tandem(1, 2, 156, 5), 0);
    }

    private static void pagesAndSeals() {
        Slewfree x = Sites.of(2);
        x.lift(0, 70, 10, 10, 0);
        check.due("10: seal of page 0", x.page(0, 5), 31 + 70);
        x.wind(9, 0, 0);
        x.pass(1);
        x.lift(1, 199, 10, 10, 0);
        int second = 31 * 101 + 5 + 3 * 9 + 199 + 11 * 3;
        check.due("10: seal of page 1", x.page(1, 5), second);
        x.lock(1, false);
        int third = (31 * second + 7 * 4 + 5 + 3 * 9) % 9973;
        check.due("9: seal of page 2", x.page(2, 5), third);
        x.lock(1, true);
        int fourth = (31 * third + 7 * 3 + 5 + 3 * 9) % 9973;
        check.due("9: seal of page 3", x.page(3, 5), fourth);
        x.tandem(1, 0, 20, 5);
        int fifth = (31 * fourth + 7 + 5 + 3 * 9 + 20) % 9973;
        check.due("11: seal of page 4", x.page(4, 5), fifth);
        x.wind(14, 0, 0);
        x.pass(1);
        int sixth = (31 * fifth + 7 * 2 + 3 * 14) % 9973;
        check.due("8: seal of page 5", x.page(5, 5), sixth);
        check.due("8: seal of page 6", x.page(6, 5), (31 * sixth + 7 * 2 + 5 + 3 * 14) % 9973);
        check.due("15: whole", x.site(14), 1);
    }

    private static void pagesAreForty() {
        Slewfree x = Sites.of(2);
        for (int i = 0; i < 19; i++) {
            x.lock(0, false);
            x.lock(0, true);
        }
        x.lock(0, false);
        check.due("10: 39 pages", x.site(12), 39);
        x.lock(0, true);
        check.due("10: 40 pages", x.site(12), 40);
        int lastSeal = x.page(39, 5);
        check.due("10: done all the same", x.lift(0, 10, 10, 20, 5), 0);
        check.due("10: it has moved", x.ofCrane(0, 2), 5);
        check.due("10: it is counted", x.ofCrane(0, 9), 1);
        check.due("11: done all the same", x.tandem(0, 1, 10, 5), 0);
        check.due("11: it has worn", x.ofCrane(1, 5), 3);
        check.due("9: done all the same", x.lock(1, false), true);
        check.due("9: it is free", x.jibs(), "L5 F0");
        x.wind(13, 0, 0);
        x.pass(1);
        check.due("8: freed all the same", x.jibs(), "F4 F0");
        check.due("10: 40 pages still", x.site(12), 40);
        check.due("10: 40 were written", x.site(13), 40);
        check.due("10: whole still", x.site(14), 1);
        x.tear(39);
        check.due("12: not whole", x.site(14), 0);
        x.lift(0, 10, 10, 10, 0);
        check.due("12: it makes room", x.site(12), 40);
        check.due("12: 41 were written", x.site(13), 41);
        check.due("12: behind the one that is gone", x.page(39, 5), (31 * lastSeal + 3 * 13 + 10 + 11) % 9973);
        check.due("12: fault", x.site(15), 39);
        x.lift(0, 10, 10, 10, 0);
        check.due("12: no more room", x.site(13), 41);
    }

    private static void pageIsTorn() {
        Slewfree x = Sites.of(1);
        for (int load = 1; load <= 5; load++) {
            x.lift(0, load, 10, 10 + load, 0);
        }
        int[] seals = new int[5];
        for (int i = 0; i < 5; i++) {
            seals[i] = x.page(i, 5);
        }
        check.due("12: its seal", x.tear(2), seals[2]);
        check.due("12: pages", x.site(12), 4);
        check.due("12: written", x.site(13), 5);
        check.due("12: those ahead stay", x.page(1, 5), seals[1]);
        check.due("12: those behind have smaller numbers", x.page(2, 5), seals[3]);
        check.due("12: load of that", x.page(2, 3), 4);
        check.due("12: least capacity of that", x.page(2, 6), 72);
        check.due("12: the last one", x.page(3, 3), 5);
        check.due("12: fault", x.site(15), 2);
        check.due("12: not whole", x.site(14), 0);
        check.due("12: the last one now", x.tear(3), seals[4]);
        check.due("12: fault still", x.site(15), 2);
        check.due("12: the page 0", x.tear(0), seals[0]);
        check.due("12: fault at 0", x.site(15), 0);
        x.lift(0, 9, 10, 10, 0);
        check.due("12: new load", x.page(2, 3), 9);
        check.due("12: behind the one that was written last", x.page(2, 5), (31 * seals[4] + 9) % 9973);
        check.due("12: load of page 1 stays", x.page(1, 3), 4);
        check.due("12: load of page 0 stays", x.page(0, 3), 2);
    }

    private static void lastPageIsTorn() {
        Slewfree x = Sites.of(1);
        x.lift(0, 1, 10, 10, 0);
        x.lift(0, 2, 10, 10, 0);
        x.tear(1);
        check.due("12: each seal follows", x.site(15), -1);
        check.due("12: but one is missing", x.site(14), 0);
        x.tear(0);
        check.due("12: empty, no fault", x.site(15), -1);
        check.due("12: empty, not whole", x.site(14), 0);
        check.due("12: pages", x.site(12), 0);
        check.thrown("12: none is left", x, Check.NO_SUCH, y -> y.tear(0));
    }

    private static void knocks() {
        Slewfree x = new Slewfree();
        check.due("13: first", x.knock(), 1);
        x.pass(300);
        check.due("13: second", x.knock(), 2);
        check.due("13: counted", x.site(16), 2);
        check.due("13: third", x.knock(), 3);
        check.due("13: no page", x.site(13), 0);
    }
}
