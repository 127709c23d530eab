/** A site of tower cranes that work by day and are left to the wind by night. */
public final class Slewfree {
    private static final int NONE = -1;

    private static final int ANGLES = 24;
    private static final int LEAST_RADIUS = 10;
    private static final int MOST_REACH = 40;
    private static final int MOST_LOAD = 199;
    private static final int MOST_TABLE_LOAD = 99;

    private static final int MOST_CRANES = 3;
    private static final int MOST_ZONES = 6;
    private static final int MOST_MEETINGS = 6;
    private static final int MOST_PAGES = 40;

    private static final int LAST_MINUTE = 9999;
    private static final int MOST_MINUTES_AT_ONCE = 300;
    private static final int HOURS = 24;
    private static final int MOST_BASE = 30;
    private static final int MOST_GUSTS = 10;

    private static final int TURNING_WIND = 3;
    private static final int CALM_WIND = 8;
    private static final int WORKING_WIND = 12;
    private static final int WORN_FROM = 80;

    private static final int DONE = 0;
    private static final int JIB_IS_FREE = 1;
    private static final int ROPE_IS_WORN = 2;
    private static final int TOO_HEAVY = 3;
    private static final int ZONE_IS_SHUT = 4;
    private static final int JIBS_CLASH = 5;

    private static final int LIFT = 0;
    private static final int TANDEM = 1;
    private static final int FREED_BY_WIND = 2;
    private static final int LOCKED = 3;
    private static final int SET_FREE = 4;

    private final Weather weather;
    private final Crane[] cranes;
    private final Zone[] zones;
    private final Meeting[] meetings;
    private final Log log;
    private int craneCount;
    private int zoneCount;
    private int meetingCount;
    private int refusedCount;

    public Slewfree() {
        weather = new Weather();
        cranes = new Crane[MOST_CRANES];
        for (int i = 0; i < MOST_CRANES; i++) {
            cranes[i] = new Crane(i);
        }
        zones = new Zone[MOST_ZONES];
        for (int i = 0; i < MOST_ZONES; i++) {
            zones[i] = new Zone();
        }
        meetings = new Meeting[MOST_MEETINGS];
        for (int i = 0; i < MOST_MEETINGS; i++) {
            meetings[i] = new Meeting();
        }
        log = new Log();
    }

    // ---- cranes

    public int crane(int reach, int falls) throws IllegalArgumentException, IllegalStateException {
        if (isOutside(reach, LEAST_RADIUS, MOST_REACH) || (falls != 2 && falls != 4)) {
            throw new IllegalArgumentException("reach is 10 to 40, falls 2 or 4");
        }
        if (craneCount >= MOST_CRANES) {
            throw new IllegalStateException("there are 3 cranes");
        }
        Crane comer = cranes[craneCount];
        craneCount++;
        comer.reach = reach;
        comer.falls = falls;
        comer.radius = LEAST_RADIUS;
        comer.isLocked = !weather.isStorm();
        return comer.number;
    }

    public int table(int crane, int ten, int twenty, int thirty, int forty)
            throws IndexOutOfBoundsException, IllegalArgumentException {
        Crane told = craneAt(crane);
        if (isOutside(ten, 0, MOST_TABLE_LOAD) || isOutside(twenty, 0, ten)
                || isOutside(thirty, 0, twenty) || isOutside(forty, 0, thirty)) {
            throw new IllegalArgumentException("loads are 0 to 99, none more than the one ahead of it");
        }
        told.ten = ten;
        told.twenty = twenty;
        told.thirty = thirty;
        told.forty = forty;
        return told.capacityAt(told.radius, weather.wind);
    }

    public int zone(int crane, int from, int to, int begin, int until)
            throws IndexOutOfBoundsException, IllegalArgumentException, IllegalStateException {
        Crane owner = craneAt(crane);
        if (isNoAngle(from) || isNoAngle(to)
                || isOutside(begin, 0, HOURS - 1) || isOutside(until, begin + 1, HOURS)) {
            throw new IllegalArgumentException("angles are 0 to 23, hours rise within 0 to 24");
        }
        if (zoneCount >= MOST_ZONES) {
            throw new IllegalStateException("there are 6 zones");
        }
        Zone told = zones[zoneCount];
        zoneCount++;
        told.crane = owner.number;
        told.from = from;
        told.to = to;
        told.begin = begin;
        told.until = until;
        return zoneCount;
    }

    public int meeting(int one, int angle, int other, int otherAngle)
            throws IndexOutOfBoundsException, IllegalArgumentException, IllegalStateException {
        Crane first = craneAt(one);
        Crane second = craneAt(other);
        if (one == other || isNoAngle(angle) || isNoAngle(otherAngle)) {
            throw new IllegalArgumentException("two cranes meet, angles are 0 to 23");
        }
        if (meetingCount >= MOST_MEETINGS) {
            throw new IllegalStateException("there are 6 meetings");
        }
        Meeting told = meetings[meetingCount];
        meetingCount++;
        told.one = first.number;
        told.angle = angle;
        told.other = second.number;
        told.otherAngle = otherAngle;
        return meetingCount;
    }

    public int rope(int crane) throws IndexOutOfBoundsException {
        Crane renewed = craneAt(crane);
        int before = renewed.wear;
        renewed.wear = 0;
        return before;
    }

    // ---- wind and jibs

    public int wind(int base, int gusts, int direction) throws IllegalArgumentException {
        if (isOutside(base, 0, MOST_BASE) || isOutside(gusts, 0, MOST_GUSTS) || isNoAngle(direction)) {
            throw new IllegalArgumentException("base is 0 to 30, gusts 0 to 10, direction 0 to 23");
        }
        int before = weather.base;
        weather.base = base;
        weather.gusts = gusts;
        weather.direction = direction;
        return before;
    }

    public int pass(int minutes) throws IllegalArgumentException, IllegalStateException {
        if (isOutside(minutes, 1, MOST_MINUTES_AT_ONCE)) {
            throw new IllegalArgumentException("minutes are 1 to 300");
        }
        if (weather.minute + minutes > LAST_MINUTE) {
            throw new IllegalStateException("minute would be above 9999");
        }
        for (int i = 0; i < minutes; i++) {
            weather.goOnByAMinute();
            if (weather.isStorm()) {
                freeLockedJibs();
            }
            if (weather.wind >= TURNING_WIND) {
                turnFreeJibs();
            }
        }
        return weather.wind;
    }

    public boolean lock(int crane, boolean is) throws IndexOutOfBoundsException, IllegalStateException {
        Crane told = craneAt(crane);
        if (is && weather.isStorm()) {
            throw new IllegalStateException("wind is above 12");
        }
        boolean was = told.isLocked;
        if (is != was) {
            told.isLocked = is;
            log.write(is ? LOCKED : SET_FREE, told.number, weather.wind, 0, DONE, NONE);
        }
        return was;
    }

    // ---- lifts and the log

    public int lift(int crane, int load, int from, int to, int angle)
            throws IndexOutOfBoundsException, IllegalArgumentException {
        Crane lifter = craneAt(crane);
        if (isNoLift(lifter, load, from, to, angle)) {
            throw new IllegalArgumentException("load is 1 to 199, radii 10 to reach, angle 0 to 23");
        }
        Trial trial = tryLift(lifter, load, from, to, angle);
        if (trial.verdict == DONE) {
            lifter.angle = angle;
            lifter.radius = to;
            lifter.wearBy(load);
            lifter.liftsDone++;
        }
        log.write(LIFT, lifter.number, weather.wind, load, trial.verdict, trial.leastCapacity);
        return trial.verdict;
    }

    public int tandem(int one, int other, int load, int part)
            throws IndexOutOfBoundsException, IllegalArgumentException {
        Crane first = craneAt(one);
        Crane second = craneAt(other);
        if (one == other || isOutside(load, 1, MOST_LOAD) || isOutside(part, 1, 9)) {
            throw new IllegalArgumentException("two cranes lift, load is 1 to 199, part 1 to 9");
        }
        int firstLoad = tenthRoundedUp(load * part);
        int secondLoad = tenthRoundedUp(load * (10 - part));
        int verdict = tandemVerdict(first, firstLoad, second, secondLoad);
        if (verdict == DONE) {
            first.wearBy(firstLoad);
            second.wearBy(secondLoad);
        }
        log.write(TANDEM, first.number, weather.wind, load, verdict, NONE);
        return verdict;
    }

    public int tear(int page) throws IndexOutOfBoundsException {
        if (isNoPage(page)) {
            throw new IndexOutOfBoundsException("no such page");
        }
        return log.takeOut(page);
    }

    public int knock() {
        refusedCount++;
        return refusedCount;
    }

    // ---- what is asked

    public int ofCrane(int crane, int what) throws IndexOutOfBoundsException, IllegalArgumentException {
        Crane asked = craneAt(crane);
        switch (what) {
            case 0: return asked.reach;
            case 1: return asked.falls;
            case 2: return asked.angle;
            case 3: return asked.radius;
            case 4: return asked.isLocked ? 1 : 0;
            case 5: return asked.wear;
            case 6: return asked.isWorn() ? 1 : 0;
            case 7: return asked.capacityAt(asked.radius, weather.wind);
            case 8: return stepsBetween(asked.angle, weather.direction);
            case 9: return asked.liftsDone;
            default: throw new IllegalArgumentException("what is 0 to 9");
        }
    }

    public int page(int page, int what) throws IndexOutOfBoundsException, IllegalArgumentException {
        if (isNoPage(page)) {
            throw new IndexOutOfBoundsException("no such page");
        }
        Page asked = log.pages[page];
        switch (what) {
            case 0: return asked.kind;
            case 1: return asked.crane;
            case 2: return asked.wind;
            case 3: return asked.load;
            case 4: return asked.verdict;
            case 5: return asked.seal;
            case 6: return asked.leastCapacity;
            default: throw new IllegalArgumentException("what is 0 to 6");
        }
    }

    public int site(int what) throws IllegalArgumentException {
        switch (what) {
            case 0: return weather.minute;
            case 1: return weather.hour();
            case 2: return weather.wind;
            case 3: return weather.base;
            case 4: return weather.gusts;
            case 5: return weather.direction;
            case 6: return weather.luck;
            case 7: return weather.lostMinutes;
            case 8: return craneCount;
            case 9: return zoneCount;
            case 10: return shutZones();
            case 11: return meetingCount;
            case 12: return log.count;
            case 13: return log.written;
            case 14: return log.isWhole() ? 1 : 0;
            case 15: return log.fault();
            case 16: return refusedCount;
            default: throw new IllegalArgumentException("what is 0 to 16");
        }
    }

    public String jibs() {
        StringBuilder text = new StringBuilder();
        for (int i = 0; i < craneCount; i++) {
            if (i > 0) {
                text.append(' ');
            }
            text.append(cranes[i].isLocked ? 'L' : 'F');
            text.append(cranes[i].angle);
        }
        return text.toString();
    }

    // ---- what would be

    public int capacity(int crane, int radius) throws IndexOutOfBoundsException, IllegalArgumentException {
        Crane asked = craneAt(crane);
        if (isOutside(radius, LEAST_RADIUS, asked.reach)) {
            throw new IllegalArgumentException("radius is 10 to reach");
        }
        return asked.capacityAt(radius, weather.wind);
    }

    public int would(int crane, int load, int from, int to, int angle, boolean isStep)
            throws IndexOutOfBoundsException, IllegalArgumentException {
        Crane asked = craneAt(crane);
        if (isNoLift(asked, load, from, to, angle)) {
            throw new IllegalArgumentException("load is 1 to 199, radii 10 to reach, angle 0 to 23");
        }
        Trial trial = tryLift(asked, load, from, to, angle);
        return isStep ? trial.refusedStep : trial.verdict;
    }

    public int bearable(int crane, int radius) throws IndexOutOfBoundsException, IllegalArgumentException {
        Crane asked = craneAt(crane);
        if (isOutside(radius, LEAST_RADIUS, asked.reach)) {
            throw new IllegalArgumentException("radius is 10 to reach");
        }
        for (int wind = WORKING_WIND; wind >= 0; wind--) {
            if (asked.capacityAt(radius, wind) >= 1) {
                return wind;
            }
        }
        return NONE;
    }

    public boolean isSound() {
        for (int i = 0; i < craneCount; i++) {
            if (!isSoundCrane(cranes[i])) {
                return false;
            }
        }
        return !log.isWhole() || log.holdsNoOverload();
    }

    public long digest() {
        long d = 8923;
        for (int what = 0; what <= 16; what++) {
            d = d * 31 + site(what);
        }
        for (int i = 0; i < craneCount; i++) {
            for (int what = 0; what <= 9; what++) {
                d = d * 31 + ofCrane(i, what);
            }
            d = d * 31 + capacity(i, cranes[i].reach);
            d = d * 31 + bearable(i, cranes[i].reach);
        }
        for (int i = 0; i < log.count; i++) {
            for (int what = 0; what <= 6; what++) {
                d = d * 31 + page(i, what);
            }
        }
        d = d * 31 + jibs().length();
        return d * 31 + (isSound() ? 1 : 0);
    }

    // ---- what may be told

    private static boolean isOutside(int value, int least, int most) {
        return value < least || value > most;
    }

    private static boolean isNoAngle(int angle) {
        return isOutside(angle, 0, ANGLES - 1);
    }

    private static boolean isNoLift(Crane crane, int load, int from, int to, int angle) {
        return isOutside(load, 1, MOST_LOAD)
                || isOutside(from, LEAST_RADIUS, crane.reach)
                || isOutside(to, LEAST_RADIUS, crane.reach)
                || isNoAngle(angle);
    }

    private boolean isNoPage(int number) {
        return isOutside(number, 0, log.count - 1);
    }

    private Crane craneAt(int number) {
        if (isOutside(number, 0, craneCount - 1)) {
            throw new IndexOutOfBoundsException("no such crane");
        }
        return cranes[number];
    }

    // ---- the ring of angles

    private static int risingSteps(int from, int to) {
        return Math.floorMod(to - from, ANGLES);
    }

    private static int stepsBetween(int from, int to) {
        int rising = risingSteps(from, to);
        return Math.min(rising, ANGLES - rising);
    }

    private static int angleTowards(int from, int to) {
        int rising = risingSteps(from, to);
        if (rising == 0) {
            return from;
        }
        // of two ways as short as each other the rising one is taken
        int turn = rising <= ANGLES - rising ? 1 : -1;
        return Math.floorMod(from + turn, ANGLES);
    }

    // ---- jibs in the wind

    private void freeLockedJibs() {
        for (int i = 0; i < craneCount; i++) {
            if (cranes[i].isLocked) {
                cranes[i].isLocked = false;
                log.write(FREED_BY_WIND, i, weather.wind, 0, DONE, NONE);
            }
        }
    }

    private void turnFreeJibs() {
        for (int i = 0; i < craneCount; i++) {
            if (!cranes[i].isLocked) {
                cranes[i].angle = angleTowards(cranes[i].angle, weather.direction);
            }
        }
    }

    // ---- lifts that are tried

    private Trial tryLift(Crane crane, int load, int from, int to, int angle) {
        if (!crane.isLocked) {
            return new Trial(JIB_IS_FREE, NONE, NONE);
        }
        if (crane.isWorn()) {
            return new Trial(ROPE_IS_WORN, NONE, NONE);
        }
        int radius = from;
        int heading = crane.angle;
        int least = crane.capacityAt(from, weather.wind);
        int lastStep = Math.abs(to - from) + stepsBetween(heading, angle);
        for (int step = 0; step <= lastStep; step++) {
            int capacity = crane.capacityAt(radius, weather.wind);
            int verdict = verdictAt(crane, load, capacity, heading);
            if (verdict != DONE) {
                return new Trial(verdict, step, NONE);
            }
            least = Math.min(least, capacity);
            if (radius != to) {
                radius += radius < to ? 1 : -1;
            } else {
                heading = angleTowards(heading, angle);
            }
        }
        return new Trial(DONE, NONE, least);
    }

    private int verdictAt(Crane crane, int load, int capacity, int heading) {
        if (load > capacity) {
            return TOO_HEAVY;
        }
        if (isInShutZone(crane, heading)) {
            return ZONE_IS_SHUT;
        }
        return wouldClash(crane, heading) ? JIBS_CLASH : DONE;
    }

    private boolean isInShutZone(Crane crane, int heading) {
        int hour = weather.hour();
        for (int i = 0; i < zoneCount; i++) {
            if (zones[i].crane == crane.number && zones[i].isShutAt(hour) && zones[i].holds(heading)) {
                return true;
            }
        }
        return false;
    }

    private boolean wouldClash(Crane crane, int heading) {
        for (int i = 0; i < meetingCount; i++) {
            for (int k = 0; k < craneCount; k++) {
                if (meetings[i].isMetBy(crane.number, heading, k, cranes[k].angle)) {
                    return true;
                }
            }
        }
        return false;
    }

    private int tandemVerdict(Crane first, int firstLoad, Crane second, int secondLoad) {
        if (!first.isLocked || !second.isLocked) {
            return JIB_IS_FREE;
        }
        if (first.isWorn() || second.isWorn()) {
            return ROPE_IS_WORN;
        }
        boolean isTooHeavy = firstLoad > first.capacityAt(first.radius, weather.wind)
                || secondLoad > second.capacityAt(second.radius, weather.wind);
        return isTooHeavy ? TOO_HEAVY : DONE;
    }

    private static int tenthRoundedUp(int tenfold) {
        return (tenfold + 9) / 10;
    }

    // ---- what is counted over all

    private int shutZones() {
        int hour = weather.hour();
        int shut = 0;
        for (int i = 0; i < zoneCount; i++) {
            if (zones[i].isShutAt(hour)) {
                shut++;
            }
        }
        return shut;
    }

    private boolean isSoundCrane(Crane crane) {
        return !(crane.isLocked && weather.isStorm())
                && !isOutside(crane.radius, LEAST_RADIUS, crane.reach)
                && crane.wear >= 0;
    }

    private static final class Weather {
        int minute;
        int luck = 31;
        int base;
        int gusts;
        int direction;
        int wind;
        int lostMinutes;

        void goOnByAMinute() {
            minute++;
            luck = (53 * luck + 101) % 1024;
            wind = base + luck * (gusts + 1) / 1024;
            if (isStorm()) {
                lostMinutes++;
            }
        }

        boolean isStorm() {
            return wind > WORKING_WIND;
        }

        int hour() {
            return minute / 60 % HOURS;
        }
    }

    private static final class Crane {
        final int number;
        int reach;
        int falls;
        int angle;
        int radius;
        boolean isLocked;
        int ten;
        int twenty;
        int thirty;
        int forty;
        int wear;
        int liftsDone;

        Crane(int number) {
            this.number = number;
        }

        int capacityAt(int radius, int wind) {
            int tens = radius / 10;
            int beyond = radius % 10;
            int below = tableLoad(tens);
            int load = below - tenthRoundedUp((below - tableLoad(tens + 1)) * beyond);
            if (falls == 4) {
                load = 2 * load - 5;
            }
            if (wind > CALM_WIND) {
                load -= wind - CALM_WIND;
            }
            return Math.max(load, 0);
        }

        // behind 40 metres the load falls no more: 40 is the most that is asked for
        private int tableLoad(int tens) {
            switch (tens) {
                case 1: return ten;
                case 2: return twenty;
                case 3: return thirty;
                default: return forty;
            }
        }

        void wearBy(int load) {
            wear += load * falls / 4 + 1;
        }

        boolean isWorn() {
            return wear >= WORN_FROM;
        }
    }

    private static final class Zone {
        int crane;
        int from;
        int to;
        int begin;
        int until;

        boolean holds(int heading) {
            return risingSteps(from, heading) <= risingSteps(from, to);
        }

        boolean isShutAt(int hour) {
            return begin <= hour && hour < until;
        }
    }

    private static final class Meeting {
        int one;
        int angle;
        int other;
        int otherAngle;

        boolean isMetBy(int crane, int heading, int second, int secondHeading) {
            boolean asTold = one == crane && angle == heading
                    && other == second && otherAngle == secondHeading;
            boolean turnedRound = one == second && angle == secondHeading
                    && other == crane && otherAngle == heading;
            return asTold || turnedRound;
        }
    }

    /** How a lift that was tried came out. */
    private static final class Trial {
        final int verdict;
        final int refusedStep;
        final int leastCapacity;

        Trial(int verdict, int refusedStep, int leastCapacity) {
            this.verdict = verdict;
            this.refusedStep = refusedStep;
            this.leastCapacity = leastCapacity;
        }
    }

    private static final class Page {
        int kind;
        int crane;
        int wind;
        int load;
        int verdict;
        int seal;
        int leastCapacity;

        int sealBehind(int sealAhead) {
            return (31 * sealAhead + 7 * kind + 5 * crane + 3 * wind + load + 11 * verdict) % 9973;
        }

        boolean isOverload() {
            return kind == LIFT && verdict == DONE && load > leastCapacity;
        }
    }

    private static final class Log {
        private static final int FIRST_SEAL = 1;

        final Page[] pages;
        int count;
        int written;
        // kept apart from the pages: the page that was written last may be torn out
        private int lastSeal = FIRST_SEAL;

        Log() {
            pages = new Page[MOST_PAGES];
            for (int i = 0; i < MOST_PAGES; i++) {
                pages[i] = new Page();
            }
        }

        void write(int kind, int crane, int wind, int load, int verdict, int leastCapacity) {
            if (count >= MOST_PAGES) {
                return;
            }
            Page next = pages[count];
            next.kind = kind;
            next.crane = crane;
            next.wind = wind;
            next.load = load;
            next.verdict = verdict;
            next.leastCapacity = leastCapacity;
            next.seal = next.sealBehind(lastSeal);
            lastSeal = next.seal;
            count++;
            written++;
        }

        /** Gives the seal of the page that is gone; its row is kept for a later page. */
        int takeOut(int number) {
            Page gone = pages[number];
            for (int i = number; i < count - 1; i++) {
                pages[i] = pages[i + 1];
            }
            count--;
            pages[count] = gone;
            return gone.seal;
        }

        int fault() {
            int sealAhead = FIRST_SEAL;
            for (int i = 0; i < count; i++) {
                if (pages[i].seal != pages[i].sealBehind(sealAhead)) {
                    return i;
                }
                sealAhead = pages[i].seal;
            }
            return NONE;
        }

        boolean isWhole() {
            return count == written && fault() == NONE;
        }

        boolean holdsNoOverload() {
            for (int i = 0; i < count; i++) {
                if (pages[i].isOverload()) {
                    return false;
                }
            }
            return true;
        }
    }
}
