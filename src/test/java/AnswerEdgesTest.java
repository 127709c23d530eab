import java.math.BigInteger;

/** What is asked (promises 1, 14 to 17 and 20 to 22), and the sentences that hold for all: each that names an edge. */
public final class AnswerEdgesTest {
    private static final Check check = new Check();

    public static void main(String[] args) {
        siteAtFirst();
        objectsAreApart();
        upTo512Calls();
        noneIsMinusOne();
        stepsFromDirection();
        craneAskedAtItsEdges();
        siteAskedOfAFullOne();
        jibsByCranes();
        bearableByCapacity();
        bearableByFourFalls();
        bearableByNothingElse();
        soundInManyStates();
        soundWithALiftAtItsLeast();
        digestOfANewObject();
        digestWrapsAround();
        digestTellsEachPart();
        askingChangesNothing();
        check.end();
    }

    /** "Creates a site without cranes, by no wind." */
    private static void siteAtFirst() {
        Slewfree x = new Slewfree();
        int[] due = {0, 0, 0, 0, 0, 0, 31, 0, 0, 0, 0, 0, 0, 0, 1, -1, 0};
        for (int what = 0; what <= 16; what++) {
            check.due("site(" + what + ") at first", x.site(what), due[what]);
        }
        check.due("jibs at first", x.jibs(), "");
        check.due("sound at first", x.isSound(), true);
        check.due("a minute without wind", x.pass(1), 0);
    }

    private static void objectsAreApart() {
        Slewfree x = new Slewfree();
        Slewfree y = Sites.full();
        Sites.blow(y, 13);
        y.knock();
        y.tear(3);
        check.due("behind calls of another one", x.digest(), new Slewfree().digest());
        check.due("a crane of its own", x.crane(10, 2), 0);
        check.due("a page of its own", x.lift(0, 1, 10, 10, 0), 3);
        check.due("its SEAL", x.page(0, 5), 31 + 1 + 33);
    }

    /** "An object is used for at most 512 calls after it has been made" */
    private static void upTo512Calls() {
        Slewfree knocked = new Slewfree();
        for (int i = 1; i <= 512; i++) {
            check.due("knock " + i, knocked.knock(), i);
        }
        Slewfree lifted = Sites.of(1);
        for (int i = 1; i <= 254; i++) {
            check.due("heavy lift " + i, lifted.lift(0, 80, 10, 40 - i % 2, 12 * (i % 2)), i <= 8 ? 3 : 2);
            check.due("lift " + i, lifted.lift(0, 20, 10, 40 - i % 2, 12 * (i % 2)), i <= 8 ? 0 : 2);
        }
        check.due("PAGES by the 511th call", lifted.site(12), 40);
        check.due("DONE by the 512th call", lifted.ofCrane(0, 9), 8);
        Slewfree asked = Sites.full();
        long digest = asked.digest();
        for (int i = 0; i < 450; i++) {
            check.due("digest", asked.digest(), digest);
        }
    }

    /** "NONE is -1." */
    private static void noneIsMinusOne() {
        Slewfree x = Sites.of(2);
        x.table(1, 0, 0, 0, 0);
        x.tandem(0, 1, 1, 9);
        check.due("FAULT", x.site(15), -1);
        check.due("least CAPACITY of a TANDEM", x.page(0, 6), -1);
        check.due("step", x.would(0, 1, 10, 10, 0, true), -1);
        check.due("bearable", x.bearable(1, 10), -1);
    }

    /** "8 how many steps by the SHORTER WAY it is from DIRECTION" */
    private static void stepsFromDirection() {
        for (int angle = 0; angle < 24; angle++) {
            Slewfree x = Sites.of(1);
            x.lift(0, 1, 10, 10, angle);
            for (int direction = 0; direction < 24; direction++) {
                x.wind(0, 0, direction);
                check.due("steps of " + angle + " from " + direction, x.ofCrane(0, 8), Ring.steps(angle, direction));
            }
        }
    }

    private static void craneAskedAtItsEdges() {
        Slewfree x = Sites.of(3);
        for (int i = 0; i < 3; i++) {
            x.rope(i);
            x.lift(i, 20, 40, 40, 23);
            check.due("ANGLE", x.ofCrane(i, 2), 23);
            check.due("RADIUS", x.ofCrane(i, 3), 40);
            check.due("LOCKED", x.ofCrane(i, 4), 1);
            check.due("CAPACITY", x.ofCrane(i, 7), 20);
            check.due("steps", x.ofCrane(i, 8), 1);
            check.due("DONE", x.ofCrane(i, 9), 1);
            x.lock(i, false);
            check.due("FREE", x.ofCrane(i, 4), 0);
        }
    }

    private static void siteAskedOfAFullOne() {
        Slewfree x = Sites.full();
        x.wind(30, 10, 23);
        Sites.passAll(x, 9999);
        x.knock();
        int[] due = {9999, 22, 30 + 194 * 11 / 1024, 30, 10, 23, 194, 9999, 3, 6, 6, 6, 40, 40, 1, -1, 1};
        for (int what = 0; what <= 16; what++) {
            check.due("site(" + what + ") of a full one", x.site(what), due[what]);
        }
    }

    /** "crane by crane, with " " between two cranes; "" without cranes" */
    private static void jibsByCranes() {
        Slewfree x = new Slewfree();
        String due = "";
        for (int i = 0; i < 3; i++) {
            check.due("jibs of " + i, x.jibs(), due);
            x.crane(10, 2);
            due = due + (i == 0 ? "L0" : " L0");
        }
        check.due("jibs of 3", x.jibs(), due);
        for (int angle = 0; angle < 24; angle++) {
            Slewfree y = Sites.of(2);
            y.lift(0, 1, 10, 10, angle);
            y.lift(1, 1, 10, 10, 23 - angle);
            y.lock(1, false);
            check.due("jibs at " + angle, y.jibs(), "L" + angle + " F" + (23 - angle));
        }
    }

    /** "the greatest WIND (0 to 12) by which it could carry a load of 1 there; NONE, if it could by none" */
    private static void bearableByCapacity() {
        int[] due = {-1, 8, 9, 10, 11, 12, 12, 12};
        for (int load = 0; load < due.length; load++) {
            Slewfree x = new Slewfree();
            x.crane(40, 2);
            x.table(0, load, load, load, load);
            for (int radius = 10; radius <= 40; radius++) {
                check.due("bearable with " + load + " at " + radius, x.bearable(0, radius), due[load]);
            }
        }
        Slewfree x = new Slewfree();
        x.crane(40, 2);
        x.table(0, 99, 5, 1, 0);
        int[] radii = {10, 20, 21, 22, 23, 25, 26, 28, 29, 30, 31, 39, 40};
        int[] winds = {12, 12, 11, 11, 10, 10, 9, 8, 8, 8, -1, -1, -1};
        for (int i = 0; i < radii.length; i++) {
            check.due("bearable at " + radii[i], x.bearable(0, radii[i]), winds[i]);
        }
    }

    private static void bearableByFourFalls() {
        int[] due = {-1, -1, -1, 8, 10, 12, 12};
        for (int load = 0; load < due.length; load++) {
            Slewfree x = new Slewfree();
            x.crane(10, 4);
            x.table(0, load, 0, 0, 0);
            check.due("bearable by 4 falls with " + load, x.bearable(0, 10), due[load]);
        }
    }

    /** It could, so neither the WIND of now nor the jib nor the ROPE matters. */
    private static void bearableByNothingElse() {
        int[] winds = {0, 8, 9, 12, 13, 30};
        for (int wind : winds) {
            Slewfree x = Sites.of(1);
            x.lift(0, 80, 10, 10, 0);
            x.lift(0, 80, 10, 10, 0);
            x.table(0, 3, 3, 3, 3);
            Sites.blow(x, wind);
            check.due("bearable by wind " + wind, x.bearable(0, 40), 10);
        }
    }

    /** "no jib is LOCKED, if WIND is above 12; ... each RADIUS is 10 to REACH; no WEAR is below 0" */
    private static void soundInManyStates() {
        for (int cranes = 0; cranes <= 3; cranes++) {
            int[] winds = {0, 12, 13, 30};
            for (int wind : winds) {
                Slewfree x = Sites.busy(cranes);
                check.due("sound", x.isSound(), true);
                Sites.blow(x, wind);
                check.due("sound by wind " + wind, x.isSound(), true);
                x.wind(30 - wind, 0, 0);
                check.due("sound, though told another wind", x.isSound(), true);
            }
        }
        check.due("a full one", Sites.full().isSound(), true);
        Slewfree x = new Slewfree();
        x.crane(10, 2);
        check.due("at the only RADIUS of REACH 10", x.isSound(), true);
        x.crane(40, 4);
        x.table(1, 99, 99, 99, 99);
        x.lift(1, 193, 10, 40, 0);
        check.due("at the RADIUS of REACH 40", x.isSound(), true);
        Slewfree late = Sites.full();
        Sites.passAll(late, 9999);
        check.due("at the last minute", late.isSound(), true);
    }

    /** "if the LOG is WHOLE, no page of a LIFT that is DONE has a load above its least CAPACITY" */
    private static void soundWithALiftAtItsLeast() {
        Slewfree x = Sites.of(2);
        x.lift(0, 40, 10, 30, 0);
        check.due("load of the page", x.page(0, 3), 40);
        check.due("its least CAPACITY", x.page(0, 6), 40);
        check.due("as much as its least CAPACITY", x.isSound(), true);
        x.lift(0, 41, 10, 30, 0);
        check.due("a refused one above CAPACITY", x.isSound(), true);
        x.tandem(0, 1, 60, 9);
        check.due("a TANDEM has none", x.isSound(), true);
        x.table(0, 0, 0, 0, 0);
        check.due("as it was then", x.isSound(), true);
        check.due("WHOLE", x.site(14), 1);
        x.tear(1);
        check.due("not WHOLE", x.isSound(), true);
    }

    /** "a number d starts with 8923; then d becomes d * 31 + v" */
    private static void digestOfANewObject() {
        Slewfree x = new Slewfree();
        check.due("without cranes and pages", x.digest(), -3261939955800838649L);
        x.crane(10, 2);
        check.due("with a crane", x.digest(), dueDigest(x));
    }

    /** "which wraps around as a 64-bit integer": by numbers without bounds, cut to 64 bits at the end. */
    private static void digestWrapsAround() {
        int below = 0;
        int above = 0;
        for (int cranes = 0; cranes <= 3; cranes++) {
            for (int pages = 0; pages <= 40; pages++) {
                Slewfree x = Sites.busy(cranes);
                if (cranes > 0) {
                    Sites.writePages(x, 0, pages);
                }
                long digest = x.digest();
                check.due("digest of " + cranes + " cranes", digest, dueDigest(x));
                below += digest < 0 ? 1 : 0;
                above += digest > 0 ? 1 : 0;
            }
        }
        check.due("some are below 0", below > 20, true);
        check.due("some are above 0", above > 20, true);
        Slewfree full = Sites.full();
        check.due("of a full one", full.digest(), dueDigest(full));
    }

    private static BigInteger onBy(BigInteger d, long v) {
        return d.multiply(BigInteger.valueOf(31)).add(BigInteger.valueOf(v));
    }

    private static long dueDigest(Slewfree x) {
        BigInteger d = BigInteger.valueOf(8923);
        for (int what = 0; what <= 16; what++) {
            d = onBy(d, x.site(what));
        }
        for (int crane = 0; crane < x.site(8); crane++) {
            for (int what = 0; what <= 9; what++) {
                d = onBy(d, x.ofCrane(crane, what));
            }
            d = onBy(d, x.capacity(crane, x.ofCrane(crane, 0)));
            d = onBy(d, x.bearable(crane, x.ofCrane(crane, 0)));
        }
        for (int page = 0; page < x.site(12); page++) {
            for (int what = 0; what <= 6; what++) {
                d = onBy(d, x.page(page, what));
            }
        }
        d = onBy(d, x.jibs().length());
        return onBy(d, x.isSound() ? 1 : 0).longValue();
    }

    private static void digestTellsEachPart() {
        Slewfree x = Sites.of(1);
        long d = x.digest();
        x.table(0, 80, 60, 40, 21);
        long e = x.digest();
        check.due("CAPACITY of its REACH is 1 more", e - d, 31L * 31 * 31);
        x.table(0, 80, 60, 40, 4);
        d = x.digest();
        x.table(0, 80, 60, 40, 3);
        check.due("and bearable of it is 1 less", x.digest() - d, -31L * 31 * 31 - 31L * 31);
        Slewfree y = new Slewfree();
        d = y.digest();
        y.knock();
        check.due("REFUSED is 1 more", y.digest() - d, 31L * 31);
        Slewfree z = Sites.of(1);
        z.lift(0, 1, 10, 10, 9);
        d = z.digest();
        z.lock(0, false);
        check.due("with pages", z.digest(), dueDigest(z));
        check.due("is another one", z.digest() == d, false);
    }

    /** "what would be (nothing is changed)", and all else that is asked. */
    private static void askingChangesNothing() {
        Check.Made[] sites = {Slewfree::new, () -> Sites.of(2), () -> Sites.busy(3), Sites::full};
        for (Check.Made made : sites) {
            for (int seed = 0; seed < 5; seed++) {
                Slewfree x = made.make();
                MadeUp calls = new MadeUp(seed, 10, 0);
                String[] names = {"ofCrane", "page", "site", "jibs", "capacity", "would", "bearable", "isSound",
                    "digest", "would"};
                for (int i = 0; i < 100; i++) {
                    calls.next(names[i % names.length]);
                    MadeUp.answer(x, calls.name, calls.arguments);
                }
                check.due("asking changes", Later.firstDifference(x, made.make(), seed), Later.NOTHING);
            }
        }
    }
}
