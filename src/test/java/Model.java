import java.util.ArrayList;
import java.util.HashSet;
import java.util.List;
import java.util.Set;

/**
 * A second, plainer writing of the document, for ModelTest to compare with. It shares no way of reckoning with
 * Slewfree: ways are written out as lists, rings are walked, logs are lists of what was written.
 */
public final class Model {
    private static final class Crane {
        int reach;
        int falls;
        int angle = 0;
        int radius = 10;
        boolean locked;
        List<Integer> table = List.of(0, 0, 0, 0);
        int wear = 0;
        int done = 0;
    }

    private record Zone(Crane crane, Set<Integer> angles, Set<Integer> hours) { }

    private record Meeting(Crane one, int angle, Crane other, int otherAngle) { }

    private record Page(int kind, int crane, int wind, int load, int verdict, int seal, int least) { }

    private record Step(int radius, int angle) { }

    private record Outcome(int verdict, int step, int least) { }

    private final List<Crane> cranes = new ArrayList<>();
    private final List<Zone> zones = new ArrayList<>();
    private final List<Meeting> meetings = new ArrayList<>();
    private final List<Page> pages = new ArrayList<>();
    private final List<Page> everWritten = new ArrayList<>();
    private int minute = 0;
    private int base = 0;
    private int gusts = 0;
    private int direction = 0;
    private int luck = 31;
    private int wind = 0;
    private int lost = 0;
    private int refused = 0;

    public int crane(int reach, int falls) {
        demand(reach >= 10 && reach <= 40 && (falls == 2 || falls == 4));
        allow(cranes.size() < 3);
        Crane crane = new Crane();
        crane.reach = reach;
        crane.falls = falls;
        crane.locked = !(wind > 12);
        cranes.add(crane);
        return cranes.size() - 1;
    }

    public int table(int crane, int ten, int twenty, int thirty, int forty) {
        find(crane);
        for (int load : new int[] {ten, twenty, thirty, forty}) {
            demand(load >= 0 && load <= 99);
        }
        demand(ten >= twenty);
        demand(twenty >= thirty);
        demand(thirty >= forty);
        cranes.get(crane).table = List.of(ten, twenty, thirty, forty);
        return carries(cranes.get(crane), cranes.get(crane).radius, wind);
    }

    public int zone(int crane, int from, int to, int begin, int until) {
        find(crane);
        demandAngle(from);
        demandAngle(to);
        demand(begin >= 0 && begin <= 23);
        demand(until > begin && until <= 24);
        allow(zones.size() < 6);
        Set<Integer> angles = new HashSet<>();
        int angle = from;
        while (angle != to) {
            angles.add(angle);
            angle = angle == 23 ? 0 : angle + 1;
        }
        angles.add(to);
        Set<Integer> hours = new HashSet<>();
        for (int hour = begin; hour != until; hour++) {
            hours.add(hour);
        }
        zones.add(new Zone(cranes.get(crane), angles, hours));
        return zones.size();
    }

    public int meeting(int one, int angle, int other, int otherAngle) {
        find(one);
        find(other);
        demand(one != other);
        demandAngle(angle);
        demandAngle(otherAngle);
        allow(meetings.size() < 6);
        meetings.add(new Meeting(cranes.get(one), angle, cranes.get(other), otherAngle));
        return meetings.size();
    }

    public int rope(int crane) {
        find(crane);
        int before = cranes.get(crane).wear;
        cranes.get(crane).wear = 0;
        return before;
    }

    public int wind(int base, int gusts, int direction) {
        demand(base >= 0 && base <= 30 && gusts >= 0 && gusts <= 10);
        demandAngle(direction);
        int before = this.base;
        this.base = base;
        this.gusts = gusts;
        this.direction = direction;
        return before;
    }

    public int pass(int minutes) {
        demand(minutes >= 1 && minutes <= 300);
        allow(minute <= 9999 - minutes);
        for (int left = minutes; left > 0; left--) {
            minute = minute + 1;
            luck = (53 * luck + 101) % 1024;
            wind = base + (luck * (gusts + 1)) / 1024;
            if (wind > 12) {
                lost++;
                for (int crane = 0; crane < cranes.size(); crane++) {
                    if (cranes.get(crane).locked) {
                        cranes.get(crane).locked = false;
                        write(2, crane, 0, 0, -1);
                    }
                }
            }
            for (Crane crane : cranes) {
                if (!crane.locked && wind >= 3 && crane.angle != direction) {
                    crane.angle = turns(crane.angle, direction).get(0);
                }
            }
        }
        return wind;
    }

    public boolean lock(int crane, boolean is) {
        find(crane);
        allow(!is || wind <= 12);
        boolean was = cranes.get(crane).locked;
        cranes.get(crane).locked = is;
        if (was && !is) {
            write(4, crane, 0, 0, -1);
        } else if (!was && is) {
            write(3, crane, 0, 0, -1);
        }
        return was;
    }

    public int lift(int crane, int load, int from, int to, int angle) {
        find(crane);
        demandLift(crane, load, from, to, angle);
        Outcome outcome = attempt(crane, load, from, to, angle);
        if (outcome.verdict == 0) {
            Crane lifter = cranes.get(crane);
            lifter.angle = angle;
            lifter.radius = to;
            lifter.wear = lifter.wear + load * lifter.falls / 4 + 1;
            lifter.done = lifter.done + 1;
        }
        write(0, crane, load, outcome.verdict, outcome.least);
        return outcome.verdict;
    }

    public int tandem(int one, int other, int load, int part) {
        find(one);
        find(other);
        demand(one != other);
        demand(load >= 1 && load <= 199);
        demand(part >= 1 && part <= 9);
        List<Crane> both = List.of(cranes.get(one), cranes.get(other));
        List<Integer> bears = List.of(shareOf(load * part, 10), shareOf(load * (10 - part), 10));
        boolean free = false;
        boolean worn = false;
        boolean heavy = false;
        for (int i = 0; i < 2; i++) {
            free |= !both.get(i).locked;
            worn |= both.get(i).wear >= 80;
            heavy |= bears.get(i) > carries(both.get(i), both.get(i).radius, wind);
        }
        int verdict = free ? 1 : worn ? 2 : heavy ? 3 : 0;
        for (int i = 0; i < 2 && verdict == 0; i++) {
            both.get(i).wear += bears.get(i) * both.get(i).falls / 4 + 1;
        }
        write(1, one, load, verdict, -1);
        return verdict;
    }

    public int tear(int page) {
        findPage(page);
        return pages.remove(page).seal;
    }

    public int knock() {
        return ++refused;
    }

    public int ofCrane(int crane, int what) {
        find(crane);
        demand(what >= 0 && what <= 9);
        Crane asked = cranes.get(crane);
        return List.of(asked.reach, asked.falls, asked.angle, asked.radius, asked.locked ? 1 : 0, asked.wear,
                asked.wear >= 80 ? 1 : 0, carries(asked, asked.radius, wind),
                turns(asked.angle, direction).size(), asked.done).get(what);
    }

    public int page(int page, int what) {
        findPage(page);
        demand(what >= 0 && what <= 6);
        Page asked = pages.get(page);
        return List.of(asked.kind, asked.crane, asked.wind, asked.load, asked.verdict, asked.seal,
                asked.least).get(what);
    }

    public int site(int what) {
        demand(what >= 0 && what <= 16);
        int shut = 0;
        for (Zone zone : zones) {
            shut += zone.hours.contains(hour()) ? 1 : 0;
        }
        int[] answers = {minute, hour(), wind, base, gusts, direction, luck, lost, cranes.size(), zones.size(),
            shut, meetings.size(), pages.size(), everWritten.size(), whole() ? 1 : 0, fault(), refused};
        return answers[what];
    }

    public String jibs() {
        List<String> texts = new ArrayList<>();
        for (Crane crane : cranes) {
            texts.add((crane.locked ? "L" : "F") + crane.angle);
        }
        return String.join(" ", texts);
    }

    public int capacity(int crane, int radius) {
        find(crane);
        demand(radius >= 10 && radius <= cranes.get(crane).reach);
        return carries(cranes.get(crane), radius, wind);
    }

    public int would(int crane, int load, int from, int to, int angle, boolean isStep) {
        find(crane);
        demandLift(crane, load, from, to, angle);
        Outcome outcome = attempt(crane, load, from, to, angle);
        return isStep ? outcome.step : outcome.verdict;
    }

    public int bearable(int crane, int radius) {
        find(crane);
        demand(radius >= 10 && radius <= cranes.get(crane).reach);
        int greatest = -1;
        for (int would = 0; would <= 12; would++) {
            if (carries(cranes.get(crane), radius, would) > 0) {
                greatest = would;
            }
        }
        return greatest;
    }

    public boolean isSound() {
        for (Crane crane : cranes) {
            if (crane.locked && wind > 12 || crane.radius < 10 || crane.radius > crane.reach || crane.wear < 0) {
                return false;
            }
        }
        for (Page page : pages) {
            if (whole() && page.kind == 0 && page.verdict == 0 && page.load > page.least) {
                return false;
            }
        }
        return true;
    }

    public long digest() {
        List<Integer> all = new ArrayList<>();
        for (int what = 0; what <= 16; what++) {
            all.add(site(what));
        }
        for (int crane = 0; crane < cranes.size(); crane++) {
            for (int what = 0; what <= 9; what++) {
                all.add(ofCrane(crane, what));
            }
            all.add(capacity(crane, cranes.get(crane).reach));
            all.add(bearable(crane, cranes.get(crane).reach));
        }
        for (int page = 0; page < pages.size(); page++) {
            for (int what = 0; what <= 6; what++) {
                all.add(page(page, what));
            }
        }
        all.add(jibs().length());
        all.add(isSound() ? 1 : 0);
        long d = 8923;
        for (int v : all) {
            d = d * 31 + v;
        }
        return d;
    }

    private static void demand(boolean holds) {
        if (!holds) {
            throw new IllegalArgumentException();
        }
    }

    private static void allow(boolean holds) {
        if (!holds) {
            throw new IllegalStateException();
        }
    }

    private static void demandAngle(int angle) {
        demand(angle >= 0 && angle <= 23);
    }

    private void demandLift(int crane, int load, int from, int to, int angle) {
        int reach = cranes.get(crane).reach;
        demand(load >= 1 && load <= 199);
        demand(from >= 10 && from <= reach && to >= 10 && to <= reach);
        demandAngle(angle);
    }

    private void find(int crane) {
        if (crane < 0 || crane >= cranes.size()) {
            throw new IndexOutOfBoundsException();
        }
    }

    private void findPage(int page) {
        if (page < 0 || page >= pages.size()) {
            throw new IndexOutOfBoundsException();
        }
    }

    private int hour() {
        return minute % 1440 / 60;
    }

    private static int shareOf(int whole, int parts) {
        int share = whole / parts;
        return share * parts == whole ? share : share + 1;
    }

    private static int carries(Crane crane, int radius, int wind) {
        int below = radius - radius % 10;
        int load = crane.table.get(below / 10 - 1);
        if (radius != below) {
            int falls = load - crane.table.get(below / 10);
            load -= shareOf(falls * (radius - below), 10);
        }
        int carried = crane.falls == 2 ? load : load + load - 5;
        int less = wind > 8 ? wind - 8 : 0;
        return carried > less ? carried - less : 0;
    }

    /** The angles that one comes by, in turn, by the shorter way. */
    private static List<Integer> turns(int from, int to) {
        List<Integer> rising = new ArrayList<>();
        for (int angle = from; angle != to;) {
            angle = angle == 23 ? 0 : angle + 1;
            rising.add(angle);
        }
        List<Integer> falling = new ArrayList<>();
        for (int angle = from; angle != to;) {
            angle = angle == 0 ? 23 : angle - 1;
            falling.add(angle);
        }
        return falling.size() < rising.size() ? falling : rising;
    }

    private static List<Step> wayOf(Crane crane, int from, int to, int angle) {
        List<Step> way = new ArrayList<>();
        if (from <= to) {
            for (int radius = from; radius <= to; radius++) {
                way.add(new Step(radius, crane.angle));
            }
        } else {
            for (int radius = from; radius >= to; radius--) {
                way.add(new Step(radius, crane.angle));
            }
        }
        for (int turned : turns(crane.angle, angle)) {
            way.add(new Step(to, turned));
        }
        return way;
    }

    private Outcome attempt(int number, int load, int from, int to, int angle) {
        Crane crane = cranes.get(number);
        if (!crane.locked) {
            return new Outcome(1, -1, -1);
        }
        if (crane.wear >= 80) {
            return new Outcome(2, -1, -1);
        }
        List<Step> way = wayOf(crane, from, to, angle);
        int least = Integer.MAX_VALUE;
        for (int i = 0; i < way.size(); i++) {
            Step step = way.get(i);
            int carried = carries(crane, step.radius, wind);
            least = carried < least ? carried : least;
            if (load > carried) {
                return new Outcome(3, i, -1);
            }
            for (Zone zone : zones) {
                if (zone.crane == crane && zone.hours.contains(hour()) && zone.angles.contains(step.angle)) {
                    return new Outcome(4, i, -1);
                }
            }
            for (Meeting met : meetings) {
                if (met.one == crane && met.angle == step.angle && met.other.angle == met.otherAngle
                        || met.other == crane && met.otherAngle == step.angle && met.one.angle == met.angle) {
                    return new Outcome(5, i, -1);
                }
            }
        }
        return new Outcome(0, -1, least);
    }

    private static int sealOf(int ahead, int kind, int crane, int wind, int load, int verdict) {
        return (31 * ahead + 7 * kind + 5 * crane + 3 * wind + load + 11 * verdict) % 9973;
    }

    private void write(int kind, int crane, int load, int verdict, int least) {
        if (pages.size() == 40) {
            return;
        }
        int ahead = everWritten.isEmpty() ? 1 : everWritten.get(everWritten.size() - 1).seal;
        Page page = new Page(kind, crane, wind, load, verdict, sealOf(ahead, kind, crane, wind, load, verdict), least);
        pages.add(page);
        everWritten.add(page);
    }

    private int fault() {
        for (int i = 0; i < pages.size(); i++) {
            Page page = pages.get(i);
            int ahead = i == 0 ? 1 : pages.get(i - 1).seal;
            if (page.seal != sealOf(ahead, page.kind, page.crane, page.wind, page.load, page.verdict)) {
                return i;
            }
        }
        return -1;
    }

    private boolean whole() {
        return fault() == -1 && pages.size() == everWritten.size();
    }
}
