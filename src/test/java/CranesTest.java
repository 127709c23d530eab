/** Promises 1 to 6: a new object, crane, table, zone, meeting, rope. */
public final class CranesTest {
    private static final Check check = new Check();

    public static void main(String[] args) {
        newObject();
        craneComes();
        craneComesByStorm();
        tableTold();
        zoneTold();
        zoneFromBehind();
        meetingTold();
        ropeRenewed();
        check.end();
    }

    private static void newObject() {
        Slewfree x = new Slewfree();
        int[] due = {0, 0, 0, 0, 0, 0, 31, 0, 0, 0, 0, 0, 0, 0, 1, -1, 0};
        for (int what = 0; what <= 16; what++) {
            check.due("1: site(" + what + ")", x.site(what), due[what]);
        }
        check.due("1: jibs", x.jibs(), "");
        check.due("1: isSound", x.isSound(), true);
        Slewfree other = new Slewfree();
        other.crane(10, 2);
        other.knock();
        check.due("1: cranes of another object", x.site(8), 0);
        check.due("1: refused of another object", x.site(16), 0);
    }

    private static void craneComes() {
        Slewfree x = new Slewfree();
        check.due("2: first", x.crane(10, 2), 0);
        check.due("2: second", x.crane(40, 4), 1);
        check.due("2: third", x.crane(25, 2), 2);
        check.due("2: cranes", x.site(8), 3);
        int[] due = {40, 4, 0, 10, 1, 0, 0, 0, 0, 0};
        for (int what = 0; what <= 9; what++) {
            check.due("2: ofCrane(1, " + what + ")", x.ofCrane(1, what), due[what]);
        }
        check.due("2: reach of 0", x.ofCrane(0, 0), 10);
        check.due("2: falls of 0", x.ofCrane(0, 1), 2);
        check.due("2: reach of 2", x.ofCrane(2, 0), 25);
        check.due("2: no page", x.site(12), 0);
        check.due("2: table is 0", x.capacity(1, 40), 0);
    }

    private static void craneComesByStorm() {
        Slewfree x = new Slewfree();
        x.wind(12, 0, 5);
        x.pass(1);
        x.crane(20, 2);
        check.due("2: locked by wind 12", x.jibs(), "L0");
        x.wind(13, 0, 5);
        x.crane(20, 2);
        check.due("2: still locked ahead of the minute", x.jibs(), "L0 L0");
        x.pass(1);
        int pages = x.site(12);
        x.crane(20, 2);
        check.due("2: free by wind 13", x.jibs(), "F1 F1 F0");
        check.due("2: no page by this", x.site(12), pages);
        check.due("2: no page was written", x.site(13), pages);
    }

    private static void tableTold() {
        Slewfree x = new Slewfree();
        x.crane(40, 2);
        x.crane(40, 4);
        check.due("3: at 10 by 2 falls", x.table(0, 99, 60, 33, 0), 99);
        check.due("3: at 10 by 4 falls", x.table(1, 99, 99, 0, 0), 193);
        check.due("3: capacity(0, 20)", x.capacity(0, 20), 60);
        check.due("3: capacity(0, 30)", x.capacity(0, 30), 33);
        check.due("3: capacity(0, 40)", x.capacity(0, 40), 0);
        check.due("3: capacity(1, 20)", x.capacity(1, 20), 193);
        x.lift(0, 1, 10, 24, 0);
        check.due("3: at its radius 24", x.table(0, 50, 40, 20, 10), 32);
        check.due("3: told anew", x.capacity(0, 40), 10);
        check.due("3: all 0", x.table(0, 0, 0, 0, 0), 0);
        x.wind(10, 0, 0);
        x.pass(1);
        check.due("3: by the wind of now", x.table(0, 50, 40, 20, 10), 30);
        check.due("3: never below 0", x.table(0, 1, 1, 1, 1), 0);
        check.due("3: no page", x.site(13), 1);
    }

    private static void zoneTold() {
        Slewfree x = new Slewfree();
        x.crane(20, 2);
        x.crane(20, 2);
        x.table(0, 50, 50, 50, 50);
        x.table(1, 50, 50, 50, 50);
        check.due("4: first", x.zone(0, 3, 5, 0, 1), 1);
        check.due("4: round over 0", x.zone(1, 22, 1, 0, 24), 2);
        check.due("4: zones", x.site(9), 2);
        check.due("4: shut", x.site(10), 2);
        check.due("4: ahead of it", x.would(0, 1, 10, 10, 2, false), 0);
        check.due("4: its first angle", x.would(0, 1, 10, 10, 3, true), 3);
        check.due("4: round the other way", x.would(0, 1, 10, 10, 13, false), 0);
        check.due("4: only of its crane", x.would(1, 1, 10, 10, 4, true), 0);
        x.pass(60);
        check.due("4: open at its until", x.would(0, 1, 10, 10, 4, false), 0);
        check.due("4: one is shut", x.site(10), 1);
        check.due("4: one angle alone", x.zone(0, 7, 7, 1, 2), 3);
        check.due("4: at it", x.would(0, 1, 10, 10, 9, true), 7);
        check.due("4: ahead of that", x.would(0, 1, 10, 10, 6, true), -1);
        check.due("4: whole ring but one", x.zone(0, 2, 0, 23, 24), 4);
        check.due("4: fifth", x.zone(0, 0, 23, 22, 24), 5);
        check.due("4: sixth", x.zone(0, 23, 0, 22, 23), 6);
        check.due("4: no page", x.site(13), 0);
        x.pass(300);
        for (int i = 0; i < 3; i++) {
            x.pass(300);
        }
        check.due("4: hour 21", x.site(1), 21);
        check.due("4: only the one of all hours", x.site(10), 1);
        x.pass(60);
        check.due("4: hour 22", x.site(10), 3);
        x.pass(60);
        check.due("4: hour 23", x.site(10), 3);
        x.pass(60);
        check.due("4: hour 0 of the next day", x.site(10), 2);
    }

    private static void zoneFromBehind() {
        Slewfree x = new Slewfree();
        x.crane(20, 2);
        x.table(0, 50, 50, 50, 50);
        x.zone(0, 3, 5, 0, 24);
        x.zone(0, 21, 1, 1, 2);
        x.lift(0, 1, 10, 10, 13);
        check.due("4: ahead of its last angle", x.would(0, 1, 10, 10, 6, true), -1);
        check.due("4: its last angle", x.would(0, 1, 10, 10, 5, true), 8);
        check.due("4: open at that hour", x.would(0, 1, 10, 10, 0, true), -1);
        x.pass(60);
        check.due("4: ahead of its first angle", x.would(0, 1, 10, 10, 20, true), -1);
        check.due("4: its first angle round over 0", x.would(0, 1, 10, 10, 22, true), 8);
    }

    private static void meetingTold() {
        Slewfree x = new Slewfree();
        for (int i = 0; i < 3; i++) {
            x.crane(20, 2);
            x.table(i, 50, 50, 50, 50);
        }
        check.due("5: first", x.meeting(0, 3, 1, 0), 1);
        check.due("5: second, of the same two", x.meeting(0, 5, 1, 9), 2);
        check.due("5: third", x.meeting(2, 0, 1, 2), 3);
        check.due("5: meetings", x.site(11), 3);
        check.due("5: the first one as told", x.would(0, 1, 10, 10, 4, true), 3);
        check.due("5: its verdict", x.would(0, 1, 10, 10, 4, false), 5);
        check.due("5: turned round", x.would(1, 1, 10, 10, 3, true), 2);
        check.due("5: not with others", x.would(2, 1, 10, 10, 12, false), 0);
        x.lift(2, 1, 10, 10, 1);
        check.due("5: the other one has gone", x.would(1, 1, 10, 10, 3, false), 0);
        check.due("5: no page but the lift's", x.site(13), 1);
    }

    private static void ropeRenewed() {
        Slewfree x = new Slewfree();
        x.crane(20, 2);
        x.crane(20, 2);
        x.table(0, 99, 99, 99, 99);
        x.table(1, 99, 99, 99, 99);
        check.due("6: a new rope", x.rope(0), 0);
        x.lift(0, 99, 10, 10, 0);
        x.lift(0, 58, 10, 10, 0);
        x.lift(1, 7, 10, 10, 0);
        check.due("6: wear", x.ofCrane(0, 5), 80);
        check.due("6: worn", x.ofCrane(0, 6), 1);
        check.due("6: refused by it", x.lift(0, 1, 10, 10, 0), 2);
        int pages = x.site(13);
        check.due("6: wear ahead of it", x.rope(0), 80);
        check.due("6: wear behind it", x.ofCrane(0, 5), 0);
        check.due("6: not worn behind it", x.ofCrane(0, 6), 0);
        check.due("6: the other rope", x.ofCrane(1, 5), 4);
        check.due("6: no page", x.site(13), pages);
        check.due("6: lifts again", x.lift(0, 1, 10, 10, 0), 0);
    }
}
