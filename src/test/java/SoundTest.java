import java.lang.reflect.Array;
import java.lang.reflect.Field;

/**
 * Promise 21, where it is false. No calls lead there, so each site is made unsound by hand, through the private fields
 * of the class; if those are held otherwise some day, this test alone has to follow.
 */
public final class SoundTest {
    private static final Check check = new Check();

    public static void main(String[] args) throws ReflectiveOperationException {
        lockedByStorm();
        radiusOutsideItsReach();
        wearBelowZero();
        doneAboveItsLeastCapacity();
        onlyIfTheLogIsWhole();
        onlyLiftsThatAreDone();
        digestTellsIt();
        check.end();
    }

    /** "no jib is LOCKED, if WIND is above 12" */
    private static void lockedByStorm() throws ReflectiveOperationException {
        for (int crane = 0; crane < 3; crane++) {
            Slewfree x = Sites.of(3);
            set(part(x, "weather"), "wind", 12);
            check.due("all LOCKED, WIND 12", x.isSound(), true);
            for (int i = 0; i < 3; i++) {
                set(craneOf(x, i), "isLocked", i == crane);
            }
            check.due(crane + " LOCKED, WIND 12", x.isSound(), true);
            set(part(x, "weather"), "wind", 13);
            check.due(crane + " LOCKED, WIND 13", x.isSound(), false);
            set(craneOf(x, crane), "isLocked", false);
            check.due("none LOCKED, WIND 13", x.isSound(), true);
        }
    }

    /** "each RADIUS is 10 to REACH" */
    private static void radiusOutsideItsReach() throws ReflectiveOperationException {
        int[] reaches = {40, 25, 10};
        for (int crane = 0; crane < 3; crane++) {
            for (int radius = 8; radius <= 42; radius++) {
                Slewfree x = Sites.busy(3);
                set(craneOf(x, crane), "radius", radius);
                check.due("RADIUS " + radius + " of " + crane, x.isSound(), radius >= 10 && radius <= reaches[crane]);
            }
        }
    }

    /** "no WEAR is below 0" */
    private static void wearBelowZero() throws ReflectiveOperationException {
        for (int crane = 0; crane < 3; crane++) {
            for (int wear = -2; wear <= 1; wear++) {
                Slewfree x = Sites.of(3);
                set(craneOf(x, crane), "wear", wear);
                check.due("WEAR " + wear + " of " + crane, x.isSound(), wear >= 0);
            }
        }
    }

    /** "if the LOG is WHOLE, no page of a LIFT that is DONE has a load above its least CAPACITY" */
    private static void doneAboveItsLeastCapacity() throws ReflectiveOperationException {
        for (int page = 0; page < 3; page++) {
            for (int least = 6; least >= 4; least--) {
                Slewfree x = siteOfLifts();
                set(pageOf(x, page), "leastCapacity", least);
                check.due("WHOLE", x.site(14), 1);
                check.due("load 5, least CAPACITY " + least + " of page " + page, x.isSound(), least >= 5);
            }
        }
    }

    private static void onlyIfTheLogIsWhole() throws ReflectiveOperationException {
        Slewfree x = siteOfLifts();
        set(pageOf(x, 0), "leastCapacity", 4);
        check.due("WHOLE", x.isSound(), false);
        x.tear(2);
        check.due("one is missing, though each SEAL FOLLOWS", x.isSound(), true);
        set(craneOf(x, 0), "wear", -1);
        check.due("the rest counts, though the LOG is not WHOLE", x.isSound(), false);
    }

    private static void onlyLiftsThatAreDone() throws ReflectiveOperationException {
        Slewfree x = Sites.of(2);
        x.tandem(0, 1, 5, 5);
        x.lift(0, 81, 10, 10, 0);
        x.lock(0, false);
        for (int page = 0; page < 3; page++) {
            set(pageOf(x, page), "leastCapacity", -7);
        }
        check.due("WHOLE", x.site(14), 1);
        check.due("a TANDEM, a LIFT that was refused, a jib set FREE", x.isSound(), true);
    }

    /** Promise 22: "1 if isSound(), otherwise 0", as the last one. */
    private static void digestTellsIt() throws ReflectiveOperationException {
        Slewfree x = siteOfLifts();
        set(pageOf(x, 2), "leastCapacity", 5);
        long sound = x.digest();
        set(pageOf(x, 2), "leastCapacity", 4);
        check.due("least CAPACITY and isSound are 1 less", x.digest() - sound, -31L * 31 - 1);
    }

    /** Three LIFTS with a load of 5 that are DONE, a page each. */
    private static Slewfree siteOfLifts() {
        Slewfree x = Sites.of(1);
        for (int i = 0; i < 3; i++) {
            x.lift(0, 5, 10, 10, 0);
        }
        return x;
    }

    private static Object craneOf(Slewfree x, int crane) throws ReflectiveOperationException {
        return Array.get(part(x, "cranes"), crane);
    }

    private static Object pageOf(Slewfree x, int page) throws ReflectiveOperationException {
        return Array.get(part(part(x, "log"), "pages"), page);
    }

    private static Object part(Object of, String name) throws ReflectiveOperationException {
        return field(of, name).get(of);
    }

    private static void set(Object of, String name, Object value) throws ReflectiveOperationException {
        field(of, name).set(of, value);
    }

    private static Field field(Object of, String name) throws ReflectiveOperationException {
        Field found = of.getClass().getDeclaredField(name);
        found.setAccessible(true);
        return found;
    }
}
