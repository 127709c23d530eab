/** Promises 14 to 17: ofCrane, page, site, jibs. */
public final class AskedTest {
    private static final Check check = new Check();

    public static void main(String[] args) {
        craneAsked();
        craneSteps();
        pageAsked();
        siteAsked();
        jibsAsked();
        check.end();
    }

    private static void craneAsked() {
        Slewfree x = new Slewfree();
        x.crane(33, 4);
        x.crane(20, 2);
        x.table(0, 30, 20, 10, 5);
        x.lift(0, 25, 14, 23, 9);
        x.wind(10, 0, 2);
        x.pass(1);
        int[] due = {33, 4, 9, 23, 1, 26, 0, 27, 7, 1};
        for (int what = 0; what <= 9; what++) {
            check.due("14: ofCrane(0, " + what + ")", x.ofCrane(0, what), due[what]);
        }
        x.lock(0, false);
        check.due("14: free", x.ofCrane(0, 4), 0);
        check.due("14: the other one is locked", x.ofCrane(1, 4), 1);
        x.lock(0, true);
        x.lift(0, 25, 10, 10, 9);
        x.rope(0);
        x.lift(0, 25, 10, 10, 9);
        x.lift(0, 25, 10, 10, 9);
        x.lift(0, 26, 10, 10, 9);
        check.due("14: wear 79", x.ofCrane(0, 5), 79);
        check.due("14: not worn by 79", x.ofCrane(0, 6), 0);
        x.rope(0);
        x.lift(0, 25, 10, 10, 9);
        x.lift(0, 26, 10, 10, 9);
        x.lift(0, 26, 10, 10, 9);
        check.due("14: wear 80", x.ofCrane(0, 5), 80);
        check.due("14: worn by 80", x.ofCrane(0, 6), 1);
        check.due("14: lifts done", x.ofCrane(0, 9), 8);
        x.lift(0, 26, 10, 10, 9);
        check.due("14: none by a refusal", x.ofCrane(0, 9), 8);
    }

    private static void craneSteps() {
        Slewfree x = new Slewfree();
        x.crane(20, 2);
        int[] directions = {0, 1, 11, 12, 13, 23};
        int[] steps = {0, 1, 11, 12, 11, 1};
        for (int i = 0; i < directions.length; i++) {
            x.wind(0, 0, directions[i]);
            check.due("14: steps from " + directions[i], x.ofCrane(0, 8), steps[i]);
        }
    }

    private static void pageAsked() {
        Slewfree x = new Slewfree();
        x.crane(20, 2);
        x.crane(20, 2);
        x.table(1, 40, 20, 20, 20);
        x.wind(5, 0, 0);
        x.pass(1);
        x.lift(1, 21, 10, 18, 0);
        x.wind(0, 0, 0);
        x.pass(1);
        int[] lift = {0, 1, 5, 21, 0, 31 + 5 + 15 + 21, 24};
        for (int what = 0; what <= 6; what++) {
            check.due("15: page(0, " + what + ")", x.page(0, what), lift[what]);
        }
        x.lift(0, 7, 10, 18, 0);
        int[] refused = {0, 0, 0, 7, 3, 31 * 72 + 7 + 33, -1};
        for (int what = 0; what <= 6; what++) {
            check.due("15: page(1, " + what + ")", x.page(1, what), refused[what]);
        }
        x.lift(1, 10, 20, 10, 3);
        check.due("15: least at the first step", x.page(2, 6), 20);
    }

    private static void siteAsked() {
        Slewfree x = new Slewfree();
        x.crane(20, 2);
        x.crane(20, 4);
        x.zone(0, 1, 2, 3, 5);
        x.zone(1, 1, 2, 4, 5);
        x.zone(1, 1, 2, 0, 4);
        x.meeting(0, 1, 1, 2);
        x.meeting(1, 1, 0, 2);
        x.wind(13, 1, 17);
        x.pass(250);
        x.tear(0);
        x.knock();
        int luck = 31;
        for (int i = 0; i < 250; i++) {
            luck = (53 * luck + 101) % 1024;
        }
        int[] due = {250, 4, 13 + luck / 512, 13, 1, 17, luck, 250, 2, 3, 2, 2, 1, 2, 0, 0, 1};
        for (int what = 0; what <= 16; what++) {
            check.due("16: site(" + what + ")", x.site(what), due[what]);
        }
    }

    private static void jibsAsked() {
        Slewfree x = new Slewfree();
        check.due("17: without cranes", x.jibs(), "");
        x.crane(20, 2);
        check.due("17: one", x.jibs(), "L0");
        x.crane(20, 2);
        x.table(1, 9, 9, 9, 9);
        x.lift(1, 1, 10, 10, 13);
        x.lock(1, false);
        check.due("17: two", x.jibs(), "L0 F13");
        x.crane(20, 2);
        x.lock(0, false);
        check.due("17: three", x.jibs(), "F0 F13 L0");
    }
}
