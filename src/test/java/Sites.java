/** Sites that several tests begin with. */
final class Sites {
    private Sites() { }

    /** Cranes of reach 40 and 2 falls that bear 80, 60, 40 and 20 at their tens. */
    static Slewfree of(int cranes) {
        Slewfree x = new Slewfree();
        for (int i = 0; i < cranes; i++) {
            x.crane(40, 2);
            x.table(i, 80, 60, 40, 20);
        }
        return x;
    }

    /** The same, and the WIND is told and is as strong as that. */
    static Slewfree inWind(int cranes, int wind) {
        Slewfree x = of(cranes);
        blow(x, wind);
        return x;
    }

    /** That WIND from now on, at the cost of a minute. */
    static void blow(Slewfree x, int wind) {
        x.wind(wind, 0, x.site(5));
        x.pass(1);
    }

    static void passAll(Slewfree x, int minutes) {
        int left = minutes;
        while (left > 0) {
            int now = Math.min(left, 300);
            x.pass(now);
            left -= now;
        }
    }

    /** Writes so many pages: the crane is set free and locked in turns, and is locked behind an even number. */
    static void writePages(Slewfree x, int crane, int pages) {
        for (int i = 0; i < pages; i++) {
            x.lock(crane, i % 2 == 1);
        }
    }

    /** So many cranes of reaches 40, 25 and 10, with all that a site may hold some of. */
    static Slewfree busy(int cranes) {
        int[] reaches = {40, 25, 10};
        Slewfree x = new Slewfree();
        x.wind(3, 4, 7);
        x.pass(70);
        for (int i = 0; i < cranes; i++) {
            x.crane(reaches[i], i == 1 ? 4 : 2);
            x.table(i, 70 - i, 50 - i, 33 - i, 12 - i);
            x.zone(i, 15, 17, 0, 24);
            x.lift(i, 6 + i, 10, 10, 3 * i + 1);
        }
        if (cranes > 1) {
            x.meeting(0, 9, 1, 4);
            x.lock(1, false);
            x.tandem(1, 0, 9, 3);
        }
        x.knock();
        return x;
    }

    /** As many cranes, zones, meetings and pages as there may be; angle 5 of crane 0 is in no zone and no meeting. */
    static Slewfree full() {
        Slewfree x = of(3);
        for (int i = 0; i < 6; i++) {
            x.zone(i % 3, 8 + i, 8 + i, 0, 24);
            x.meeting(i % 3, 14 + i, (i + 1) % 3, 0);
        }
        writePages(x, 2, 40);
        return x;
    }
}
