/** "1. Time and wind": each sentence that names an edge, at the last value on its one side and the first on the other. */
public final class TimeEdgesTest {
    private static final Check check = new Check();

    public static void main(String[] args) {
        minuteUpToItsLast();
        hourRoundMidnight();
        everyHour();
        windToldAtItsEdges();
        windStaysTillTheNextMinute();
        luckByItsModulo();
        windByLuck();
        windByEveryGust();
        lockedBecomesFree();
        lockedBecomesFreeByOneGust();
        lockedAgainBehindAStorm();
        aPageEach();
        pagesOfAStormEndAtForty();
        turnsByThreeOrMore();
        turnsAsItIsFreed();
        turnsByEveryShorterWay();
        lostAboveTwelve();
        lostEachMinute();
        passAtItsEdges();
        check.end();
    }

    /** "MINUTE is 0 at first, 9999 at most" */
    private static void minuteUpToItsLast() {
        Slewfree x = new Slewfree();
        check.due("MINUTE at first", x.site(0), 0);
        for (int i = 1; i <= 33; i++) {
            x.pass(300);
            check.due("MINUTE behind " + i + " times 300", x.site(0), 300 * i);
        }
        x.pass(98);
        check.due("the last but one", x.site(0), 9998);
        x.pass(1);
        check.due("the last", x.site(0), 9999);
        check.due("WIND is asked still", x.site(2), 0);
        Slewfree y = new Slewfree();
        Sites.passAll(y, 9699);
        y.pass(300);
        check.due("by 300 to the last", y.site(0), 9999);
    }

    /** "HOUR of the day is MINUTE / 60 modulo 24" */
    private static void hourRoundMidnight() {
        int[] minutes = {0, 1, 59, 60, 119, 120, 1379, 1380, 1439, 1440, 1499, 1500, 2879, 2880, 8639, 8640, 9959, 9960,
            9999};
        int[] hours = {0, 0, 0, 1, 1, 2, 22, 23, 23, 0, 0, 1, 23, 0, 23, 0, 21, 22, 22};
        for (int i = 0; i < minutes.length; i++) {
            Slewfree x = new Slewfree();
            Sites.passAll(x, minutes[i]);
            check.due("HOUR at MINUTE " + minutes[i], x.site(1), hours[i]);
        }
    }

    private static void everyHour() {
        int hour = 0;
        Slewfree x = new Slewfree();
        Slewfree ahead = new Slewfree();
        ahead.pass(59);
        for (int i = 1; i <= 165; i++) {
            check.due("HOUR a minute ahead of " + 60 * i, ahead.site(1), hour);
            ahead.pass(60);
            hour = hour == 23 ? 0 : hour + 1;
            x.pass(60);
            check.due("HOUR at MINUTE " + 60 * i, x.site(1), hour);
        }
    }

    /** "BASE is 0 to 30, GUSTS 0 to 10 (both 0 at first), DIRECTION an ANGLE (0 at first)" */
    private static void windToldAtItsEdges() {
        Slewfree x = new Slewfree();
        windIs(x, "at first", 0, 0, 0);
        check.due("BASE before, at first", x.wind(30, 10, 23), 0);
        windIs(x, "at its most", 30, 10, 23);
        check.due("BASE before, at its most", x.wind(0, 0, 0), 30);
        windIs(x, "at its least", 0, 0, 0);
        check.due("BASE before, at its least", x.wind(29, 9, 22), 0);
        windIs(x, "ahead of its most", 29, 9, 22);
        check.due("BASE before", x.wind(1, 1, 1), 29);
        windIs(x, "behind its least", 1, 1, 1);
    }

    private static void windIs(Slewfree x, String when, int base, int gusts, int direction) {
        check.due("BASE " + when, x.site(3), base);
        check.due("GUSTS " + when, x.site(4), gusts);
        check.due("DIRECTION " + when, x.site(5), direction);
    }

    /** "WIND is 0 at first"; "Tells the wind (WIND stays till the next minute)" */
    private static void windStaysTillTheNextMinute() {
        Slewfree x = Sites.of(1);
        check.due("WIND at first", x.site(2), 0);
        x.wind(13, 0, 5);
        check.due("WIND, though told", x.site(2), 0);
        check.due("locked, though told", x.jibs(), "L0");
        check.due("CAPACITY, though told", x.capacity(0, 10), 80);
        check.due("LUCK, though told", x.site(6), 31);
        check.due("WIND that minute", x.pass(1), 13);
        x.wind(0, 0, 5);
        check.due("WIND, though told that it is calm", x.site(2), 13);
        check.due("CAPACITY, though told that it is calm", x.capacity(0, 10), 75);
        check.due("WIND the next minute", x.pass(1), 0);
        check.due("CAPACITY the next minute", x.capacity(0, 10), 80);
    }

    /** "LUCK is 31 at first"; "LUCK becomes (53 * LUCK + 101) modulo 1024" */
    private static void luckByItsModulo() {
        Slewfree x = new Slewfree();
        check.due("LUCK at first", x.site(6), 31);
        int luck = 31;
        for (int i = 1; i <= 200; i++) {
            int next = 53 * luck + 101;
            while (next >= 1024) {
                next -= 1024;
            }
            luck = next;
            x.pass(1);
            check.due("LUCK of minute " + i, x.site(6), luck);
        }
        int[] minutes = {1, 2, 3, 4, 272, 273, 274, 799, 800, 801, 1023, 1024, 1025, 2048, 9999};
        int[] due = {720, 373, 414, 539, 655, 0, 101, 114, 1023, 48, 18, 31, 720, 31, 194};
        for (int i = 0; i < minutes.length; i++) {
            Slewfree y = new Slewfree();
            Sites.passAll(y, minutes[i]);
            check.due("LUCK at MINUTE " + minutes[i], y.site(6), due[i]);
        }
    }

    private static int luckAt(int minute) {
        long luck = 31;
        for (int i = 0; i < minute; i++) {
            luck = Math.floorMod(53 * luck + 101, 1024L);
        }
        return (int) luck;
    }

    /** "WIND becomes BASE + LUCK * (GUSTS + 1) / 1024" */
    private static void windByLuck() {
        windAt("no more by LUCK 0", 273, 7, 10, 7);
        windAt("10 more by LUCK 1023 and 10 GUSTS", 800, 7, 10, 17);
        windAt("the greatest of all", 800, 30, 10, 40);
        windAt("the least of all", 273, 0, 0, 0);
        windAt("no more by LUCK 1023 without GUSTS", 800, 7, 0, 7);
        windAt("no more by LUCK 511 and 1 of GUSTS", 288, 7, 1, 7);
        windAt("1 more by LUCK 512 and 1 of GUSTS", 785, 7, 1, 8);
        windAt("no more by LUCK 93 and 10 GUSTS", 154, 7, 10, 7);
        windAt("1 more by LUCK 94 and 10 GUSTS", 67, 7, 10, 8);
    }

    private static void windAt(String what, int minute, int base, int gusts, int due) {
        Slewfree x = new Slewfree();
        x.wind(base, gusts, 0);
        Sites.passAll(x, minute - 1);
        check.due("WIND " + what, x.pass(1), due);
        check.due("WIND asked " + what, x.site(2), due);
    }

    private static void windByEveryGust() {
        for (int gusts = 0; gusts <= 10; gusts++) {
            Slewfree x = new Slewfree();
            x.wind(2, gusts, 0);
            for (int minute = 1; minute <= 450; minute++) {
                int due = 2;
                for (int part = luckAt(minute) * (gusts + 1); part >= 1024; part -= 1024) {
                    due++;
                }
                check.due("WIND of minute " + minute + " by " + gusts + " GUSTS", x.pass(1), due);
            }
        }
    }

    /** "if it is above 12, each jib that is LOCKED becomes FREE" */
    private static void lockedBecomesFree() {
        int[] winds = {0, 3, 11, 12, 13, 14, 30};
        for (int wind : winds) {
            Slewfree x = Sites.of(3);
            Sites.blow(x, wind);
            check.due("by wind " + wind, x.jibs(), wind > 12 ? "F0 F0 F0" : "L0 L0 L0");
            check.due("pages by wind " + wind, x.site(12), wind > 12 ? 3 : 0);
            Sites.blow(x, 0);
            check.due("behind wind " + wind, x.ofCrane(0, 4), wind > 12 ? 0 : 1);
        }
    }

    private static void lockedBecomesFreeByOneGust() {
        check.due("12 by a gust that comes to nothing", jibsBehind(288), "L0");
        check.due("13 by a gust", jibsBehind(785), "F0");
        Slewfree x = Sites.of(1);
        x.wind(12, 1, 0);
        x.pass(2);
        check.due("WIND behind the gust", x.site(2), 12);
        check.due("free behind the gust", x.jibs(), "F0");
    }

    private static String jibsBehind(int minute) {
        Slewfree x = Sites.of(1);
        Sites.passAll(x, minute - 1);
        x.wind(12, 1, 0);
        x.pass(1);
        return x.jibs();
    }

    /** "Returns whether it was LOCKED"; it may be LOCKED by WIND 12, and set FREE by any. */
    private static void lockedAgainBehindAStorm() {
        Slewfree x = Sites.inWind(1, 13);
        check.due("set FREE by storm, FREE already", x.lock(0, false), false);
        Sites.blow(x, 12);
        check.due("FREE still", x.jibs(), "F0");
        check.due("LOCKED by WIND 12", x.lock(0, true), false);
        check.due("LOCKED", x.jibs(), "L0");
        check.due("LOCKED already", x.lock(0, true), true);
        x.wind(30, 0, 0);
        check.due("set FREE ahead of a storm", x.lock(0, false), true);
        check.due("LOCKED ahead of it", x.lock(0, true), false);
        x.pass(1);
        check.due("FREE by it", x.jibs(), "F0");
        check.due("pages of it all", x.site(13), 5);
    }

    /** "(crane by crane, a page each)" */
    private static void aPageEach() {
        for (int free = 0; free < 8; free++) {
            Slewfree x = Sites.of(3);
            int written = 0;
            for (int i = 0; i < 3; i++) {
                if ((free >> i) % 2 == 1) {
                    x.lock(i, false);
                    written++;
                }
            }
            Sites.blow(x, 13);
            check.due("all are free", x.jibs(), "F0 F0 F0");
            check.due("a page for each that was locked", x.site(12), 3);
            for (int i = 0; i < 3; i++) {
                if ((free >> i) % 2 == 0) {
                    pageIs(x, written, 2, i, 13);
                    written++;
                }
            }
            x.pass(5);
            check.due("no more by the same storm", x.site(13), 3);
        }
    }

    private static void pageIs(Slewfree x, int page, int kind, int crane, int wind) {
        int[] due = {kind, crane, wind, 0, 0};
        for (int what = 0; what < due.length; what++) {
            check.due("page(" + page + ", " + what + ")", x.page(page, what), due[what]);
        }
        check.due("page(" + page + ", 6)", x.page(page, 6), -1);
    }

    private static void pagesOfAStormEndAtForty() {
        for (int ahead = 36; ahead <= 40; ahead++) {
            Slewfree x = Sites.of(3);
            for (int page = 0; page < ahead; page++) {
                x.lift(0, 199, 10, 10, 0);
            }
            Sites.blow(x, 13);
            int due = Math.min(ahead + 3, 40);
            check.due("all are free behind " + ahead, x.jibs(), "F0 F0 F0");
            check.due("pages behind " + ahead, x.site(12), due);
            check.due("written behind " + ahead, x.site(13), due);
            for (int page = ahead; page < due; page++) {
                pageIs(x, page, 2, page - ahead, 13);
            }
        }
    }

    /** "then each FREE one turns a step by the SHORTER WAY to DIRECTION, if WIND is 3 or more" */
    private static void turnsByThreeOrMore() {
        int[] winds = {0, 1, 2, 3, 4, 12, 13, 30};
        for (int wind : winds) {
            Slewfree x = Sites.of(2);
            x.lock(1, false);
            x.wind(wind, 0, 9);
            x.pass(1);
            String locked = wind > 12 ? "F1" : "L0";
            check.due("a minute of wind " + wind, x.jibs(), locked + (wind >= 3 ? " F1" : " F0"));
            x.pass(2);
            check.due("three of wind " + wind, x.ofCrane(1, 2), wind >= 3 ? 3 : 0);
        }
        Slewfree x = Sites.of(1);
        x.lock(0, false);
        Sites.blow(x, 2);
        x.wind(3, 0, 9);
        check.due("not ahead of the minute", x.jibs(), "F0");
        x.pass(1);
        check.due("by the wind of that minute", x.jibs(), "F1");
        Sites.blow(x, 2);
        check.due("not by the wind of the minute ahead", x.jibs(), "F1");
    }

    private static void turnsAsItIsFreed() {
        Slewfree x = Sites.of(1);
        x.wind(13, 0, 20);
        x.pass(1);
        check.due("freed and turned the same minute", x.jibs(), "F23");
        check.due("its page", x.site(13), 1);
    }

    /** "The SHORTER WAY ... with fewer steps; of two as short ones that by rising"; "(none, if it is there)" */
    private static void turnsByEveryShorterWay() {
        for (int from = 0; from < 24; from++) {
            for (int to = 0; to < 24; to++) {
                Slewfree x = Sites.of(1);
                x.lift(0, 1, 10, 10, from);
                x.lock(0, false);
                x.wind(3, 0, to);
                int steps = Ring.steps(from, to);
                int angle = from;
                String what = "from " + from + " to " + to;
                for (int left = steps; left > 0; left--) {
                    check.due("steps " + what, x.ofCrane(0, 8), left);
                    angle = Ring.next(angle, to);
                    x.pass(1);
                    check.due("angle " + what, x.ofCrane(0, 2), angle);
                }
                check.due("no step " + what, x.ofCrane(0, 8), 0);
                x.pass(2);
                check.due("it stays there " + what, x.ofCrane(0, 2), to);
            }
        }
    }

    /** "If WIND is above 12, that minute is LOST." */
    private static void lostAboveTwelve() {
        int[] winds = {0, 11, 12, 13, 30};
        for (int wind : winds) {
            Slewfree x = new Slewfree();
            check.due("LOST at first", x.site(7), 0);
            Sites.blow(x, wind);
            check.due("LOST by wind " + wind, x.site(7), wind > 12 ? 1 : 0);
            x.pass(300);
            check.due("LOST by 301 minutes of wind " + wind, x.site(7), wind > 12 ? 301 : 0);
        }
    }

    private static void lostEachMinute() {
        Slewfree x = new Slewfree();
        x.wind(12, 1, 0);
        int due = 0;
        for (int minute = 1; minute <= 200; minute++) {
            due += luckAt(minute) >= 512 ? 1 : 0;
            x.pass(1);
            check.due("LOST up to minute " + minute, x.site(7), due);
        }
        Slewfree y = new Slewfree();
        y.wind(30, 10, 0);
        Sites.passAll(y, 9999);
        check.due("all are LOST", y.site(7), 9999);
    }

    /** "IllegalArgumentException if minutes is not 1 to 300": what the first and the last of them do. */
    private static void passAtItsEdges() {
        Slewfree x = Sites.of(1);
        x.lock(0, false);
        x.wind(5, 0, 12);
        check.due("WIND behind one", x.pass(1), 5);
        check.due("one", x.jibs(), "F1");
        x.wind(5, 9, 12);
        check.due("WIND behind 300", x.pass(300), 5 + luckAt(301) * 10 / 1024);
        check.due("MINUTE behind 300", x.site(0), 301);
        check.due("LUCK behind 300", x.site(6), luckAt(301));
        Slewfree y = Sites.of(1);
        y.lock(0, false);
        y.wind(5, 9, 12);
        for (int i = 0; i < 301; i++) {
            y.pass(1);
        }
        x.lock(0, true);
        y.lock(0, true);
        check.due("300 at once are as 300 by one", x.site(7) + " " + x.jibs(), y.site(7) + " " + y.jibs());
    }
}
