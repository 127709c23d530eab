/** Promises 7 to 9: wind, pass, lock. */
public final class WindTest {
    private static final Check check = new Check();

    public static void main(String[] args) {
        windTold();
        minutesGoBy();
        gustsByLuck();
        jibsTurn();
        jibsAreFreedByWind();
        jibsAreLocked();
        check.end();
    }

    private static void windTold() {
        Slewfree x = new Slewfree();
        check.due("7: base before", x.wind(30, 10, 23), 0);
        check.due("7: base before, told anew", x.wind(4, 3, 7), 30);
        check.due("7: base", x.site(3), 4);
        check.due("7: gusts", x.site(4), 3);
        check.due("7: direction", x.site(5), 7);
        check.due("7: wind stays", x.site(2), 0);
        x.pass(1);
        check.due("7: till the next minute", x.site(2), 6);
        x.wind(20, 0, 0);
        check.due("7: wind stays again", x.site(2), 6);
        check.due("7: no page", x.site(13), 0);
    }

    /** LUCK by its rule: 31, 720, 373, 414, 539, 1020, 913, 362. */
    private static void minutesGoBy() {
        Slewfree x = new Slewfree();
        x.wind(2, 10, 0);
        int[] luck = {720, 373, 414, 539, 1020, 913, 362};
        int[] wind = {9, 6, 6, 7, 12, 11, 5};
        for (int i = 0; i < luck.length; i++) {
            check.due("8: wind of minute " + (i + 1), x.pass(1), wind[i]);
            check.due("8: luck of minute " + (i + 1), x.site(6), luck[i]);
            check.due("8: minute", x.site(0), i + 1);
        }
        check.due("8: none was lost by 12", x.site(7), 0);
        x.wind(0, 0, 0);
        check.due("8: many", x.pass(52), 0);
        check.due("8: hour ahead of 60", x.site(1), 0);
        x.pass(1);
        check.due("8: hour at 60", x.site(1), 1);
        for (int i = 0; i < 4; i++) {
            x.pass(300);
        }
        x.pass(179);
        check.due("8: minute 1439", x.site(0), 1439);
        check.due("8: hour 23", x.site(1), 23);
        x.pass(1);
        check.due("8: hour 0 of the next day", x.site(1), 0);
        x.wind(13, 0, 0);
        x.pass(3);
        check.due("8: lost", x.site(7), 3);
        x.wind(12, 0, 0);
        x.pass(3);
        check.due("8: not lost", x.site(7), 3);
    }

    /** LUCK is 512, and 1023, once in each 1024 minutes. */
    private static void gustsByLuck() {
        check.due("8: 512 * 2 / 1024", windAtLuck(512, 1), 5);
        check.due("8: 511 * 2 / 1024", windAtLuck(511, 1), 4);
        check.due("8: 1023 * 1 / 1024", windAtLuck(1023, 0), 4);
        check.due("8: 1023 * 11 / 1024", windAtLuck(1023, 10), 14);
        check.due("8: 0 * 11 / 1024", windAtLuck(0, 10), 4);
    }

    private static int windAtLuck(int wanted, int gusts) {
        Slewfree x = new Slewfree();
        x.wind(4, gusts, 0);
        int minutes = 0;
        for (int luck = 31; luck != wanted || minutes == 0; minutes++) {
            luck = (53 * luck + 101) % 1024;
        }
        for (; minutes > 300; minutes -= 300) {
            x.pass(300);
        }
        int wind = x.pass(minutes);
        check.due("8: luck", x.site(6), wanted);
        return wind;
    }

    private static void jibsTurn() {
        Slewfree x = new Slewfree();
        x.crane(20, 2);
        x.crane(20, 2);
        x.lock(1, false);
        x.wind(2, 0, 12);
        x.pass(30);
        check.due("8: none turns by 2", x.jibs(), "L0 F0");
        x.wind(3, 0, 12);
        x.pass(1);
        check.due("8: as short ways, the rising one", x.jibs(), "L0 F1");
        x.wind(3, 0, 14);
        x.pass(1);
        check.due("8: 13 steps by rising, 11 by falling", x.jibs(), "L0 F0");
        x.pass(1);
        check.due("8: from 0 to 23", x.jibs(), "L0 F23");
        x.wind(3, 0, 2);
        x.pass(2);
        check.due("8: from 23 to 1", x.jibs(), "L0 F1");
        x.pass(300);
        check.due("8: it stays there", x.jibs(), "L0 F2");
        check.due("8: pages", x.site(13), 1);
    }

    private static void jibsAreFreedByWind() {
        Slewfree x = new Slewfree();
        for (int i = 0; i < 3; i++) {
            x.crane(20, 2);
        }
        x.lock(1, false);
        x.wind(12, 0, 3);
        check.due("8: wind 12", x.pass(1), 12);
        check.due("8: none is freed by 12", x.jibs(), "L0 F1 L0");
        x.wind(13, 0, 3);
        check.due("8: wind 13", x.pass(2), 13);
        check.due("8: freed, then turned", x.jibs(), "F2 F3 F2");
        check.due("8: a page each", x.site(12), 3);
        check.due("8: kind", x.page(1, 0), 2);
        check.due("8: crane by crane, first", x.page(1, 1), 0);
        check.due("8: crane by crane, second", x.page(2, 1), 2);
        check.due("8: wind of then", x.page(2, 2), 13);
        check.due("8: load", x.page(2, 3), 0);
        check.due("8: verdict", x.page(2, 4), 0);
        check.due("8: least capacity", x.page(2, 6), -1);
        check.due("8: lost", x.site(7), 2);
    }

    private static void jibsAreLocked() {
        Slewfree x = new Slewfree();
        x.crane(20, 2);
        x.crane(20, 2);
        check.due("9: locked already", x.lock(1, true), true);
        check.due("9: no page by this", x.site(13), 0);
        check.due("9: set free", x.lock(1, false), true);
        check.due("9: jibs", x.jibs(), "L0 F0");
        check.due("9: free already", x.lock(1, false), false);
        check.due("9: a page", x.site(13), 1);
        check.due("9: kind of free", x.page(0, 0), 4);
        check.due("9: its crane", x.page(0, 1), 1);
        x.wind(12, 0, 0);
        x.pass(1);
        check.due("9: locked by wind 12", x.lock(1, true), false);
        check.due("9: jibs again", x.jibs(), "L0 L0");
        check.due("9: kind of locked", x.page(1, 0), 3);
        check.due("9: crane of locked", x.page(1, 1), 1);
        check.due("9: wind of then", x.page(1, 2), 12);
        check.due("9: load", x.page(1, 3), 0);
        check.due("9: verdict", x.page(1, 4), 0);
        check.due("9: least capacity", x.page(1, 6), -1);
    }
}
