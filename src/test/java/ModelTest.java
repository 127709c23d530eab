import java.lang.reflect.InvocationTargetException;
import java.lang.reflect.Method;
import java.lang.reflect.Modifier;
import java.util.Arrays;
import java.util.HashMap;
import java.util.Map;
import java.util.TreeMap;

/** Long runs of made-up calls, always the same ones: Slewfree answers each as Model does. */
public final class ModelTest {
    private static final int RUNS = 1500;
    private static final int CALLS = 500;
    private static final int[] STRANGE = {-1, Integer.MIN_VALUE, Integer.MAX_VALUE, 24, 40, 41, 200, 100, -2, 3,
        0, 9, 10, 11, 25, 31, 301, 5};
    private static final String[] FIRST = {"crane", "table", "zone", "meeting", "crane", "table", "zone", "meeting"};
    private static final String[] OFTEN = {"lift", "lift", "lift", "tandem", "lock", "lock", "pass", "pass", "wind",
        "table", "would", "would", "would", "tear", "rope", "crane", "zone", "meeting", "digest", "digest", "capacity",
        "bearable", "ofCrane", "page", "site", "jibs", "isSound", "knock"};

    private static final Map<String, Method> ofSlewfree = new HashMap<>();
    private static final Map<String, Method> ofModel = new HashMap<>();
    private static final Map<String, Integer> seen = new TreeMap<>();

    private static long state = 20261119;
    private static int wrong = 0;

    public static void main(String[] args) throws Exception {
        gather(Slewfree.class, ofSlewfree);
        gather(Model.class, ofModel);
        for (int run = 0; run < RUNS && wrong < 20; run++) {
            compareARun(run);
        }
        demandSeen();
        System.out.println(RUNS + " runs, " + wrong + " wrong");
        if (wrong > 0) {
            System.exit(1);
        }
    }

    private static void gather(Class<?> kind, Map<String, Method> methods) {
        for (Method method : kind.getDeclaredMethods()) {
            if (Modifier.isPublic(method.getModifiers())) {
                methods.put(method.getName(), method);
            }
        }
    }

    private static void compareARun(int run) throws Exception {
        Slewfree real = new Slewfree();
        Model model = new Model();
        int strangeness = run % 4 == 0 ? 12 : 120;
        int boldness = below(5);
        for (int call = 0; call < CALLS; call++) {
            String name = call < FIRST.length ? FIRST[call] : OFTEN[below(OFTEN.length)];
            Object[] arguments = argumentsOf(name, boldness);
            if (below(strangeness) == 0 && arguments.length > 0) {
                int which = below(arguments.length);
                if (arguments[which] instanceof Integer) {
                    arguments[which] = STRANGE[below(STRANGE.length)];
                }
            }
            Object got = answer(ofSlewfree.get(name), real, arguments);
            Object due = answer(ofModel.get(name), model, arguments);
            seen.merge(name + (name.equals("lift") || name.equals("tandem") || got.toString().startsWith("throws")
                    ? " " + got : ""), 1, Integer::sum);
            if (!got.equals(due)) {
                wrong++;
                System.out.println("run " + run + ", call " + call + ": " + name + Arrays.toString(arguments)
                        + " answered " + got + ", due is " + due);
                return;
            }
        }
    }

    private static Object answer(Method method, Object object, Object[] arguments) throws Exception {
        try {
            return method.invoke(object, arguments);
        } catch (InvocationTargetException e) {
            return "throws " + e.getCause().getClass().getSimpleName();
        }
    }

    private static Object[] argumentsOf(String name, int boldness) {
        switch (name) {
            case "crane": return of(10 + below(31), 2 + 2 * below(2));
            case "table": return table();
            case "zone": return zone();
            case "meeting": return of(below(3), below(24), below(3), below(24));
            case "rope": return of(below(3));
            case "wind": return of(boldness == 0 ? below(31) : below(12), below(boldness == 1 ? 11 : 4), below(24));
            case "pass": return of(boldness == 4 ? 220 + below(81) : below(6) == 0 ? 1 + below(90) : 1 + below(5));
            case "lock": return new Object[] {below(3), below(4) != 0};
            case "lift": return lift();
            case "would": return with(lift(), below(2) == 0);
            case "tandem": return of(below(3), below(3), 1 + below(below(2) == 0 ? 20 : 199), 1 + below(9));
            case "tear": return of(below(60));
            case "ofCrane": return of(below(3), below(10));
            case "page": return of(below(40), below(7));
            case "site": return of(below(17));
            case "capacity": return of(below(3), 10 + below(31));
            case "bearable": return of(below(3), 10 + below(31));
            default: return new Object[0];
        }
    }

    private static Object[] table() {
        int ten = below(100);
        int twenty = below(ten + 1);
        int thirty = below(twenty + 1);
        int forty = below(thirty + 1);
        return below(4) == 0 ? of(below(3), ten, twenty, thirty, forty)
                : of(below(3), 99 - forty, 99 - thirty, 99 - twenty, 99 - ten);
    }

    private static Object[] zone() {
        int begin = below(24);
        int from = below(24);
        int to = below(3) == 0 ? below(24) : (from + below(3)) % 24;
        return of(below(3), from, to, begin, begin + 1 + below(24 - begin));
    }

    private static Object[] lift() {
        int radius = below(3) == 0 ? 10 + below(31) : 10 + below(11);
        return of(below(3), 1 + below(below(3) == 0 ? 199 : 12), 10 + below(11), radius, below(24));
    }

    private static Object[] of(Object... arguments) {
        return arguments;
    }

    private static Object[] with(Object[] arguments, Object last) {
        Object[] all = Arrays.copyOf(arguments, arguments.length + 1);
        all[arguments.length] = last;
        return all;
    }

    /** The runs are worth little if they never come to a verdict or a refusal. */
    private static void demandSeen() {
        String[] due = {"lift 0", "lift 1", "lift 2", "lift 3", "lift 4", "lift 5", "tandem 0", "tandem 1", "tandem 2",
            "tandem 3", "crane throws IllegalStateException", "zone throws IllegalStateException",
            "meeting throws IllegalStateException", "lock throws IllegalStateException",
            "pass throws IllegalStateException", "pass throws IllegalArgumentException",
            "tear throws IndexOutOfBoundsException", "page throws IllegalArgumentException"};
        for (String one : due) {
            if (seen.getOrDefault(one, 0) < 20) {
                wrong++;
                System.out.println("seen too seldom: " + one + " " + seen.getOrDefault(one, 0));
            }
        }
    }

    private static int below(int bound) {
        state = state * 6364136223846793005L + 1442695040888963407L;
        return (int) ((state >>> 33) % bound);
    }
}
