/** "2. Cranes": each sentence that names an edge, at the last value on its one side and the first on the other. */
public final class CraneEdgesTest {
    private static final Check check = new Check();

    public static void main(String[] args) {
        cranesUpToThree();
        craneAtFirst();
        craneByTheWindOfThen();
        tableAtItsEdges();
        tableIsZeroAtFirst();
        capacityByTheTenBelow();
        capacityIsRoundedUp();
        capacityByFourFalls();
        capacityByWind();
        capacityByAll();
        capacityAtItsRadius();
        wearByLoad();
        wornFromEighty();
        ropeRenewed();
        zoneByEveryAngle();
        zoneByEveryHour();
        zoneRoundMidnight();
        zonesUpToSix();
        zoneOfItsCrane();
        meetingAtBothAngles();
        meetingByOneCraneOfThree();
        meetingsUpToSix();
        check.end();
    }

    /** "CRANES: at most 3, numbered from 0, each with a REACH (10 to 40 metres), FALLS (2 or 4)" */
    private static void cranesUpToThree() {
        int[] reaches = {10, 40, 39};
        int[] falls = {4, 2, 4};
        Slewfree x = new Slewfree();
        for (int i = 0; i < 3; i++) {
            check.due("cranes", x.site(8), i);
            check.due("number", x.crane(reaches[i], falls[i]), i);
        }
        check.due("cranes", x.site(8), 3);
        for (int i = 0; i < 3; i++) {
            check.due("REACH of " + i, x.ofCrane(i, 0), reaches[i]);
            check.due("FALLS of " + i, x.ofCrane(i, 1), falls[i]);
        }
    }

    /** "an ANGLE (0 at first), a RADIUS (10 at first), and a jib that is LOCKED (at first ...)" */
    private static void craneAtFirst() {
        for (int cranes = 1; cranes <= 3; cranes++) {
            Slewfree x = new Slewfree();
            for (int i = 0; i < cranes; i++) {
                x.crane(40, 2);
            }
            int[] due = {40, 2, 0, 10, 1, 0, 0, 0, 0, 0};
            for (int what = 0; what <= 9; what++) {
                check.due("ofCrane(.., " + what + ") at first", x.ofCrane(cranes - 1, what), due[what]);
            }
        }
    }

    /** "(... but FREE, if WIND is above 12 then; no page by this)" */
    private static void craneByTheWindOfThen() {
        int[] winds = {0, 11, 12, 13, 30};
        for (int wind : winds) {
            Slewfree x = new Slewfree();
            Sites.blow(x, wind);
            x.wind(25 - wind / 2, 0, 0);
            x.crane(20, 2);
            check.due("came by wind " + wind, x.jibs(), wind > 12 ? "F0" : "L0");
            check.due("pages", x.site(12), 0);
            check.due("written", x.site(13), 0);
            check.due("sound", x.isSound(), true);
        }
        Slewfree x = new Slewfree();
        Sites.blow(x, 13);
        x.crane(20, 2);
        Sites.blow(x, 12);
        x.crane(20, 2);
        check.due("by 13, then by 12", x.jibs(), "F0 L0");
    }

    /** "Its TABLE has a load for 10, 20, 30 and 40 metres (0 to 99 each, none more than the one ahead of it ...)" */
    private static void tableAtItsEdges() {
        int[][] tables = {{0, 0, 0, 0}, {99, 99, 99, 99}, {99, 0, 0, 0}, {99, 99, 0, 0}, {99, 99, 99, 0}, {1, 1, 1, 0},
            {99, 98, 97, 96}, {4, 3, 2, 1}};
        Slewfree x = new Slewfree();
        x.crane(10, 2);
        x.crane(40, 2);
        for (int[] table : tables) {
            check.due("CAPACITY then", x.table(1, table[0], table[1], table[2], table[3]), table[0]);
            for (int ten = 0; ten < 4; ten++) {
                check.due("load for " + (10 * ten + 10), x.capacity(1, 10 * ten + 10), table[ten]);
            }
            check.due("the other one has its own", x.capacity(0, 10), 0);
        }
    }

    /** "(... 0 at first)" */
    private static void tableIsZeroAtFirst() {
        Slewfree x = new Slewfree();
        x.crane(40, 2);
        for (int radius = 10; radius <= 40; radius++) {
            check.due("CAPACITY at first, at " + radius, x.capacity(0, radius), 0);
        }
        check.due("no load can be lifted", x.lift(0, 1, 10, 10, 0), 3);
        check.due("nothing is bearable", x.bearable(0, 40), -1);
    }

    /** "the load of the TABLE for the ten below (10 for 10 to 19)" */
    private static void capacityByTheTenBelow() {
        int[][] tables = {{99, 0, 0, 0}, {99, 99, 0, 0}, {99, 99, 99, 0}};
        for (int ten = 1; ten <= 3; ten++) {
            Slewfree x = craneOf(2, tables[ten - 1]);
            check.due("at the ten itself", x.capacity(0, 10 * ten), 99);
            check.due("1 metre beyond", x.capacity(0, 10 * ten + 1), 89);
            check.due("2 metres beyond", x.capacity(0, 10 * ten + 2), 79);
            check.due("9 metres beyond", x.capacity(0, 10 * ten + 9), 9);
            check.due("at the next ten", x.capacity(0, 10 * ten + 10), 0);
            check.due("ahead of the ten", x.capacity(0, Math.max(10, 10 * ten - 1)), 99);
        }
    }

    /** "(that times how many metres one is beyond, divided by 10, rounded up)" */
    private static void capacityIsRoundedUp() {
        Slewfree x = craneOf(2, 99, 98, 88, 77);
        int[] radii = {10, 11, 15, 19, 20, 21, 25, 29, 30, 31, 35, 39, 40};
        int[] due = {99, 98, 98, 98, 98, 97, 93, 89, 88, 86, 82, 78, 77};
        for (int i = 0; i < radii.length; i++) {
            check.due("CAPACITY at " + radii[i], x.capacity(0, radii[i]), due[i]);
        }
    }

    /** "for 4 FALLS twice that, less 5"; "0 at least" */
    private static void capacityByFourFalls() {
        Slewfree x = craneOf(4, 99, 98, 3, 2);
        check.due("of 99", x.capacity(0, 10), 193);
        check.due("of 98, rounded ahead of the doubling", x.capacity(0, 11), 191);
        check.due("of 98", x.capacity(0, 20), 191);
        check.due("of 3", x.capacity(0, 30), 1);
        check.due("of 2, below 0", x.capacity(0, 31), 0);
        check.due("of 2 at its ten", x.capacity(0, 40), 0);
        check.due("of 0", craneOf(4, 0, 0, 0, 0).capacity(0, 10), 0);
    }

    /** "then less WIND - 8, if WIND is above 8; 0 at least. (By the WIND of now.)" */
    private static void capacityByWind() {
        int[] winds = {0, 7, 8, 9, 10, 12, 13, 30};
        int[] due = {5, 5, 5, 4, 3, 1, 0, 0};
        int[] dueByFour = {3, 3, 3, 2, 1, 0, 0, 0};
        for (int i = 0; i < winds.length; i++) {
            Slewfree x = craneOf(2, 5, 5, 5, 5);
            Slewfree four = craneOf(4, 4, 4, 4, 4);
            Sites.blow(x, winds[i]);
            Sites.blow(four, winds[i]);
            x.wind(winds[i] == 12 ? 0 : 12, 10, 0);
            check.due("by wind " + winds[i], x.capacity(0, 22), due[i]);
            check.due("as table tells", x.table(0, 5, 5, 5, 5), due[i]);
            check.due("as ofCrane tells", x.ofCrane(0, 7), due[i]);
            check.due("by 4 falls, wind " + winds[i], four.capacity(0, 22), dueByFour[i]);
        }
    }

    private static void capacityByAll() {
        int[][] tables = {{99, 67, 66, 3}, {90, 61, 29, 28}, {35, 34, 16, 0}, {13, 8, 8, 1}, {9, 5, 2, 1}};
        for (int[] table : tables) {
            for (int falls = 2; falls <= 4; falls += 2) {
                for (int wind = 0; wind <= 30; wind++) {
                    Slewfree x = craneOf(falls, table);
                    Sites.blow(x, wind);
                    for (int radius = 10; radius <= 40; radius++) {
                        check.due("falls " + falls + ", wind " + wind + ", radius " + radius, x.capacity(0, radius),
                                dueCapacity(table, falls, wind, radius));
                    }
                }
            }
        }
    }

    private static int dueCapacity(int[] table, int falls, int wind, int radius) {
        int ten = radius / 10;
        int due = table[ten - 1];
        if (radius > 10 * ten) {
            int tenfold = (table[ten - 1] - table[ten]) * (radius - 10 * ten);
            for (; tenfold > 0; tenfold -= 10) {
                due--;
            }
        }
        due = falls == 4 ? due + due - 5 : due;
        for (int above = 9; above <= wind; above++) {
            due--;
        }
        return due < 0 ? 0 : due;
    }

    private static void capacityAtItsRadius() {
        for (int radius = 10; radius <= 40; radius++) {
            Slewfree x = craneOf(2, 99, 67, 66, 3);
            x.lift(0, 1, 10, radius, 0);
            int due = dueCapacity(new int[] {99, 67, 66, 3}, 2, 0, radius);
            check.due("at its RADIUS " + radius, x.ofCrane(0, 7), due);
            check.due("as table tells", x.table(0, 99, 67, 66, 3), due);
        }
    }

    private static Slewfree craneOf(int falls, int... table) {
        Slewfree x = new Slewfree();
        x.crane(40, falls);
        x.table(0, table[0], table[1], table[2], table[3]);
        return x;
    }

    /** "a LIFT with a load wears it by load * FALLS / 4 + 1"; "What is divided is divided towards 0" */
    private static void wearByLoad() {
        Slewfree two = craneOf(2, 99, 99, 99, 99);
        for (int load = 1; load <= 99; load++) {
            two.lift(0, load, 10, 10, 0);
            check.due("by 2 falls, load " + load, two.rope(0), load % 2 == 0 ? load / 2 + 1 : (load + 1) / 2);
        }
        Slewfree four = craneOf(4, 99, 99, 99, 99);
        for (int load = 1; load <= 193; load++) {
            four.lift(0, load, 10, 10, 0);
            check.due("by 4 falls, load " + load, four.rope(0), load + 1);
        }
    }

    /** "ROPE of a crane: WEAR is 0 at first"; "It is WORN, if WEAR is 80 or more." */
    private static void wornFromEighty() {
        for (int last = 76; last <= 79; last++) {
            Slewfree x = craneOf(4, 99, 99, 99, 99);
            check.due("WEAR at first", x.ofCrane(0, 5), 0);
            check.due("WORN at first", x.ofCrane(0, 6), 0);
            x.lift(0, 1, 10, 10, 0);
            x.lift(0, last - 1, 10, 10, 0);
            int wear = 2 + last;
            check.due("WEAR", x.ofCrane(0, 5), wear);
            check.due("WORN by " + wear, x.ofCrane(0, 6), wear >= 80 ? 1 : 0);
            check.due("VERDICT by " + wear, x.would(0, 1, 10, 10, 0, false), wear >= 80 ? 2 : 0);
        }
        Slewfree x = craneOf(4, 99, 99, 99, 99);
        x.lift(0, 193, 10, 10, 0);
        check.due("WEAR by one LIFT", x.ofCrane(0, 5), 194);
        check.due("WORN by it", x.ofCrane(0, 6), 1);
    }

    /** "Renews the ROPE of a crane: WEAR is 0"; "Returns WEAR ahead of it" */
    private static void ropeRenewed() {
        Slewfree x = craneOf(4, 99, 99, 99, 99);
        x.crane(40, 2);
        check.due("of a new one", x.rope(0), 0);
        x.lift(0, 79, 10, 10, 0);
        check.due("of the other one", x.rope(1), 0);
        check.due("still WORN", x.ofCrane(0, 6), 1);
        check.due("of a worn one", x.rope(0), 80);
        check.due("WEAR", x.ofCrane(0, 5), 0);
        check.due("WORN no more", x.ofCrane(0, 6), 0);
        check.due("of a renewed one", x.rope(0), 0);
        check.due("written", x.site(13), 1);
    }

    /** "from one ANGLE on by rising ones to another one (both count)" */
    private static void zoneByEveryAngle() {
        for (int from = 0; from < 24; from++) {
            for (int to = 0; to < 24; to++) {
                boolean[] holds = new boolean[24];
                holds[to] = true;
                for (int angle = from; angle != to; angle = Ring.rising(angle)) {
                    holds[angle] = true;
                }
                for (int angle = 0; angle < 24; angle++) {
                    Slewfree x = Sites.of(1);
                    x.lift(0, 1, 10, 10, angle);
                    x.zone(0, from, to, 0, 24);
                    check.due("from " + from + " to " + to + ": " + angle, x.would(0, 1, 10, 10, angle, false),
                            holds[angle] ? 4 : 0);
                }
            }
        }
    }

    /** "from an HOUR on till ahead of another one (0 to 24; the first one is less)"; "It is SHUT at those HOURS." */
    private static void zoneByEveryHour() {
        for (int begin = 0; begin < 24; begin++) {
            for (int until = begin + 1; until <= 24; until++) {
                for (int hour = 0; hour < 24; hour++) {
                    boolean isShut = hour >= begin && hour < until;
                    String what = "from " + begin + " till ahead of " + until + " at hour " + hour;
                    zoneAt(what, begin, until, 60 * hour, isShut);
                    zoneAt(what + " at its end", begin, until, 60 * hour + 59, isShut);
                }
            }
        }
    }

    private static void zoneAt(String what, int begin, int until, int minute, boolean isShut) {
        Slewfree x = Sites.of(1);
        x.zone(0, 0, 0, begin, until);
        Sites.passAll(x, minute);
        check.due("SHUT " + what, x.site(10), isShut ? 1 : 0);
        check.due("VERDICT " + what, x.would(0, 1, 10, 10, 0, false), isShut ? 4 : 0);
    }

    private static void zoneRoundMidnight() {
        for (int day = 1; day <= 6; day++) {
            zoneAt("of the last hour ahead of midnight " + day, 23, 24, 1440 * day - 1, true);
            zoneAt("of the last hour at midnight " + day, 23, 24, 1440 * day, false);
            zoneAt("of the first hour ahead of midnight " + day, 0, 1, 1440 * day - 1, false);
            zoneAt("of the first hour at midnight " + day, 0, 1, 1440 * day, true);
            zoneAt("of the first hour behind it " + day, 0, 1, 1440 * day + 60, false);
            zoneAt("of the whole day at midnight " + day, 0, 24, 1440 * day, true);
        }
        zoneAt("of hour 22 at the last minute of all", 22, 23, 9999, true);
        zoneAt("till hour 22 at the last minute of all", 0, 22, 9999, false);
    }

    /** "At most 6 in all." */
    private static void zonesUpToSix() {
        Slewfree x = Sites.of(3);
        check.due("ZONES at first", x.site(9), 0);
        check.due("SHUT at first", x.site(10), 0);
        for (int i = 0; i < 6; i++) {
            check.due("zone " + i, x.zone(i % 3, 1 + i, 1 + i, i % 2, 24), i + 1);
            check.due("ZONES", x.site(9), i + 1);
            check.due("SHUT at hour 0", x.site(10), i / 2 + 1);
        }
        x.pass(60);
        check.due("SHUT at hour 1", x.site(10), 6);
        int[] steps = {1, 2, 3};
        for (int i = 0; i < 3; i++) {
            check.due("the first one of " + i, x.would(i, 1, 10, 10, 12, true), steps[i]);
            check.due("ahead of it", x.would(i, 1, 10, 10, steps[i] - 1, false), 0);
        }
        x.wind(3, 0, 8);
        for (int i = 0; i < 3; i++) {
            x.lock(i, false);
        }
        x.pass(8);
        x.wind(0, 0, 8);
        x.pass(1);
        for (int i = 0; i < 3; i++) {
            x.lock(i, true);
            check.due("the second one of " + i, x.would(i, 1, 10, 10, 0, true), 8 - (4 + i));
        }
    }

    private static void zoneOfItsCrane() {
        for (int crane = 0; crane < 3; crane++) {
            Slewfree x = Sites.of(3);
            x.zone(crane, 0, 23, 0, 24);
            for (int i = 0; i < 3; i++) {
                check.due("zone of " + crane + ", crane " + i, x.would(i, 1, 10, 10, 5, false), i == crane ? 4 : 0);
            }
        }
    }

    /** "A MEETING: of two cranes, an ANGLE each"; "They CLASH, if both are at these ANGLES." */
    private static void meetingAtBothAngles() {
        int[][] stands = {{7, 19}, {6, 19}, {8, 19}, {7, 18}, {7, 20}, {19, 7}, {0, 0}};
        for (int[] stand : stands) {
            for (int turn = 0; turn < 2; turn++) {
                Slewfree x = Sites.of(2);
                x.lift(0, 1, 10, 10, stand[0]);
                x.lift(1, 1, 10, 10, stand[1]);
                int due = stand[0] == 7 && stand[1] == 19 ? 5 : 0;
                check.due("meetings", turn == 0 ? x.meeting(0, 7, 1, 19) : x.meeting(1, 19, 0, 7), 1);
                check.due("the first at " + stand[0], x.would(0, 1, 10, 10, stand[0], false), due);
                check.due("the other at " + stand[1], x.would(1, 1, 10, 10, stand[1], false), due);
            }
        }
        Slewfree x = Sites.of(2);
        x.meeting(0, 0, 1, 0);
        check.due("at 0 both", x.would(1, 1, 10, 10, 1, true), 0);
        Slewfree y = Sites.of(2);
        y.meeting(1, 23, 0, 0);
        check.due("at 23 and 0", y.would(1, 1, 10, 10, 23, true), 1);
    }

    private static void meetingByOneCraneOfThree() {
        int[][] pairs = {{0, 1}, {1, 0}, {0, 2}, {2, 0}, {1, 2}, {2, 1}};
        for (int[] pair : pairs) {
            Slewfree x = Sites.of(3);
            x.meeting(pair[0], 2, pair[1], 0);
            for (int i = 0; i < 3; i++) {
                check.due("meeting of " + pair[0] + " and " + pair[1] + ", crane " + i,
                        x.would(i, 1, 10, 10, 3, false), i == pair[0] ? 5 : 0);
            }
            x.lift(3 - pair[0] - pair[1], 1, 10, 10, 3);
            check.due("the third one elsewhere", x.would(pair[0], 1, 10, 10, 3, true), 2);
            x.lift(pair[1], 1, 10, 10, 23);
            check.due("the other one elsewhere", x.would(pair[0], 1, 10, 10, 3, true), -1);
        }
    }

    /** "At most 6 in all." */
    private static void meetingsUpToSix() {
        int[] at = {3, 23, 4, 21, 6, 20};
        for (int kept = 0; kept < 6; kept++) {
            Slewfree x = Sites.of(2);
            check.due("MEETINGS at first", x.site(11), 0);
            for (int i = 0; i < 6; i++) {
                check.due("meeting " + i, x.meeting(0, i == kept ? at[i] : 12, 1, 0), i + 1);
                check.due("MEETINGS", x.site(11), i + 1);
            }
            check.due("meeting " + kept + " counts", x.would(0, 1, 10, 10, at[kept], false), 5);
            int ahead = at[kept] < 12 ? Ring.falling(at[kept]) : Ring.rising(at[kept]);
            check.due("ahead of it none does", x.would(0, 1, 10, 10, ahead, false), 0);
        }
    }
}
