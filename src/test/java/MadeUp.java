import java.lang.reflect.InvocationTargetException;
import java.lang.reflect.Method;
import java.lang.reflect.Modifier;
import java.util.Arrays;
import java.util.HashMap;
import java.util.Map;

/** Made-up calls, always the same ones for a seed, to a Slewfree or an object of a class with the same methods. */
final class MadeUp {
    private static final int[] STRANGE = {-1, Integer.MIN_VALUE, Integer.MAX_VALUE, 24, 40, 41, 200, 100, -2, 3,
        0, 9, 10, 11, 25, 31, 301, 5};
    private static final String[] OFTEN = {"lift", "lift", "lift", "tandem", "lock", "lock", "pass", "pass", "wind",
        "table", "would", "would", "would", "tear", "rope", "crane", "zone", "meeting", "digest", "digest", "capacity",
        "bearable", "ofCrane", "page", "site", "jibs", "isSound", "knock"};

    private static final Map<Class<?>, Map<String, Method>> methods = new HashMap<>();

    String name;
    Object[] arguments;

    private long state;
    private final int strangeness;
    private final int boldness;

    /** One in strangeness calls has a strange argument; boldness tells how strong the winds are. */
    MadeUp(long seed, int strangeness, int boldness) {
        this.state = 20261119 + seed * 0x9E3779B97F4A7C15L;
        this.strangeness = strangeness;
        this.boldness = boldness;
        below(2);
    }

    void next() {
        next(OFTEN[below(OFTEN.length)]);
    }

    void next(String name) {
        this.name = name;
        arguments = argumentsOf(name);
        if (below(strangeness) == 0 && arguments.length > 0) {
            int which = below(arguments.length);
            if (arguments[which] instanceof Integer) {
                arguments[which] = STRANGE[below(STRANGE.length)];
            }
        }
    }

    static Object answer(Object site, String name, Object... arguments) {
        try {
            return methods.computeIfAbsent(site.getClass(), MadeUp::methodsOf).get(name).invoke(site, arguments);
        } catch (InvocationTargetException e) {
            return "throws " + e.getCause().getClass().getSimpleName();
        } catch (IllegalAccessException e) {
            throw new IllegalStateException(e);
        }
    }

    static String text(String name, Object... arguments) {
        String listed = Arrays.toString(arguments);
        return name + "(" + listed.substring(1, listed.length() - 1) + ")";
    }

    private static Map<String, Method> methodsOf(Class<?> kind) {
        Map<String, Method> found = new HashMap<>();
        for (Method method : kind.getDeclaredMethods()) {
            if (Modifier.isPublic(method.getModifiers())) {
                found.put(method.getName(), method);
            }
        }
        return found;
    }

    private Object[] argumentsOf(String name) {
        switch (name) {
            case "crane": return of(10 + below(31), 2 + 2 * below(2));
            case "table": return table();
            case "zone": return zone();
            case "meeting": return of(below(3), below(24), below(3), below(24));
            case "rope": return of(below(3));
            case "wind": return of(boldness == 0 ? below(31) : below(12), below(boldness == 1 ? 11 : 4), below(24));
            case "pass": return of(boldness == 4 ? 220 + below(81) : below(6) == 0 ? 1 + below(90) : 1 + below(5));
            case "lock": return new Object[] {below(3), below(4) != 0};
            case "lift": return lift();
            case "would": return with(lift(), below(2) == 0);
            case "tandem": return of(below(3), below(3), 1 + below(below(2) == 0 ? 20 : 199), 1 + below(9));
            case "tear": return of(below(60));
            case "ofCrane": return of(below(3), below(10));
            case "page": return of(below(40), below(7));
            case "site": return of(below(17));
            case "capacity": return of(below(3), 10 + below(31));
            case "bearable": return of(below(3), 10 + below(31));
            default: return new Object[0];
        }
    }

    private Object[] table() {
        int ten = below(100);
        int twenty = below(ten + 1);
        int thirty = below(twenty + 1);
        int forty = below(thirty + 1);
        return below(4) == 0 ? of(below(3), ten, twenty, thirty, forty)
                : of(below(3), 99 - forty, 99 - thirty, 99 - twenty, 99 - ten);
    }

    private Object[] zone() {
        int begin = below(24);
        int from = below(24);
        int to = below(3) == 0 ? below(24) : (from + below(3)) % 24;
        return of(below(3), from, to, begin, begin + 1 + below(24 - begin));
    }

    private Object[] lift() {
        int radius = below(3) == 0 ? 10 + below(31) : 10 + below(11);
        return of(below(3), 1 + below(below(3) == 0 ? 199 : 12), 10 + below(11), radius, below(24));
    }

    private static Object[] of(Object... arguments) {
        return arguments;
    }

    private static Object[] with(Object[] arguments, Object last) {
        Object[] all = Arrays.copyOf(arguments, arguments.length + 1);
        all[arguments.length] = last;
        return all;
    }

    int below(int bound) {
        state = state * 6364136223846793005L + 1442695040888963407L;
        return (int) ((state >>> 33) % bound);
    }
}
