import java.util.Map;
import java.util.TreeMap;

/** Long runs of made-up calls, always the same ones: Slewfree answers each as Model does. */
public final class ModelTest {
    private static final int RUNS = 1500;
    private static final int CALLS = 500;
    private static final String[] FIRST = {"crane", "table", "zone", "meeting", "crane", "table", "zone", "meeting"};

    private static final Map<String, Integer> seen = new TreeMap<>();

    private static int wrong = 0;

    public static void main(String[] args) {
        for (int run = 0; run < RUNS && wrong < 20; run++) {
            compareARun(run);
        }
        demandSeen();
        System.out.println(RUNS + " runs, " + wrong + " wrong");
        if (wrong > 0) {
            System.exit(1);
        }
    }

    private static void compareARun(int run) {
        Slewfree real = new Slewfree();
        Model model = new Model();
        MadeUp calls = new MadeUp(run, run % 4 == 0 ? 12 : 120, run % 5);
        for (int call = 0; call < CALLS; call++) {
            if (call < FIRST.length) {
                calls.next(FIRST[call]);
            } else {
                calls.next();
            }
            Object got = MadeUp.answer(real, calls.name, calls.arguments);
            Object due = MadeUp.answer(model, calls.name, calls.arguments);
            note(calls.name, got);
            if (!got.equals(due)) {
                wrong++;
                System.out.println("run " + run + ", call " + call + ": " + MadeUp.text(calls.name, calls.arguments)
                        + " answered " + got + ", due is " + due);
                return;
            }
        }
    }

    private static void note(String name, Object got) {
        boolean isTold = name.equals("lift") || name.equals("tandem") || got.toString().startsWith("throws");
        seen.merge(isTold ? name + " " + got : name, 1, Integer::sum);
    }

    /** The runs are worth little if they never come to a verdict or a refusal. */
    private static void demandSeen() {
        String[] due = {"lift 0", "lift 1", "lift 2", "lift 3", "lift 4", "lift 5", "tandem 0", "tandem 1", "tandem 2",
            "tandem 3", "crane throws IllegalStateException", "zone throws IllegalStateException",
            "meeting throws IllegalStateException", "lock throws IllegalStateException",
            "pass throws IllegalStateException", "pass throws IllegalArgumentException",
            "tear throws IndexOutOfBoundsException", "page throws IllegalArgumentException"};
        for (String one : due) {
            if (seen.getOrDefault(one, 0) < 20) {
                wrong++;
                System.out.println("seen too seldom: " + one + " " + seen.getOrDefault(one, 0));
            }
        }
    }
}
