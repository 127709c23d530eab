import java.lang.reflect.Constructor;
import java.lang.reflect.Field;
import java.lang.reflect.Method;
import java.lang.reflect.Modifier;
import java.util.Set;
import java.util.TreeSet;

/**
 * The public face: exactly the document's constructor and methods, and nothing else that can be seen; and what of
 * LANGUAGE.md's rules 1, 2, 5, 6, 11 and 12 can be seen in the compiled class.
 */
public final class FaceTest {
    private static final String OUT = "IndexOutOfBoundsException";
    private static final String BAD = "IllegalArgumentException";
    private static final String STATE = "IllegalStateException";

    private static final Check check = new Check();

    public static void main(String[] args) {
        Set<String> due = new TreeSet<>(Set.of(
                "int crane(int,int) " + BAD + " " + STATE,
                "int table(int,int,int,int,int) " + OUT + " " + BAD,
                "int zone(int,int,int,int,int) " + OUT + " " + BAD + " " + STATE,
                "int meeting(int,int,int,int) " + OUT + " " + BAD + " " + STATE,
                "int rope(int) " + OUT,
                "int wind(int,int,int) " + BAD,
                "int pass(int) " + BAD + " " + STATE,
                "boolean lock(int,boolean) " + OUT + " " + STATE,
                "int lift(int,int,int,int,int) " + OUT + " " + BAD,
                "int tandem(int,int,int,int) " + OUT + " " + BAD,
                "int tear(int) " + OUT,
                "int knock()",
                "int ofCrane(int,int) " + OUT + " " + BAD,
                "int page(int,int) " + OUT + " " + BAD,
                "int site(int) " + BAD,
                "String jibs()",
                "int capacity(int,int) " + OUT + " " + BAD,
                "int would(int,int,int,int,int,boolean) " + OUT + " " + BAD,
                "int bearable(int,int) " + OUT + " " + BAD,
                "boolean isSound()",
                "long digest()"));
        check.due("methods", seenMethods(), due);
        check.due("the class", Slewfree.class.getModifiers(), Modifier.PUBLIC | Modifier.FINAL);
        check.due("its package", Slewfree.class.getPackageName(), "");
        Constructor<?>[] constructors = Slewfree.class.getDeclaredConstructors();
        check.due("constructors", constructors.length, 1);
        check.due("its parameters", constructors[0].getParameterCount(), 0);
        check.due("it is public", Modifier.isPublic(constructors[0].getModifiers()), true);
        for (Field field : Slewfree.class.getDeclaredFields()) {
            check.due("private " + field.getName(), Modifier.isPrivate(field.getModifiers()), true);
        }
        noOtherFace();
        classesAreKept();
        check.end();
    }

    /** Rule 1: "No private method bears the name of a public one." */
    private static void noOtherFace() {
        Set<String> shown = new TreeSet<>();
        Set<String> hidden = new TreeSet<>();
        for (Method method : Slewfree.class.getDeclaredMethods()) {
            (Modifier.isPrivate(method.getModifiers()) ? hidden : shown).add(method.getName());
        }
        hidden.retainAll(shown);
        check.due("private methods with public names", hidden, Set.of());
    }

    /** Rules 1, 2 and 12: classes inside that are hidden and static; rules 5 and 11: what they hold. */
    private static void classesAreKept() {
        Class<?>[] inside = Slewfree.class.getDeclaredClasses();
        check.due("classes in all are some twelve at most", inside.length + 1 <= 12, true);
        classIsKept(Slewfree.class);
        for (Class<?> one : inside) {
            int modifiers = one.getModifiers();
            check.due("hidden: " + one.getName(), Modifier.isPublic(modifiers) || Modifier.isProtected(modifiers),
                    false);
            check.due("static: " + one.getName(), Modifier.isStatic(modifiers), true);
            classIsKept(one);
        }
    }

    private static void classIsKept(Class<?> one) {
        int ofObject = 0;
        for (Field field : one.getDeclaredFields()) {
            int modifiers = field.getModifiers();
            if (Modifier.isStatic(modifiers)) {
                check.due("final: " + one.getName() + "." + field.getName(), Modifier.isFinal(modifiers), true);
            } else {
                ofObject++;
            }
        }
        check.due("some twenty fields at most: " + one.getName(), ofObject <= 20, true);
        for (Method method : one.getDeclaredMethods()) {
            String name = one.getName() + "." + method.getName();
            check.due("at most seven parameters: " + name, method.getParameterCount() <= 7, true);
            check.due("no equals, hashCode, toString: " + name,
                    Set.of("equals", "hashCode", "toString").contains(method.getName()), false);
        }
    }

    private static Set<String> seenMethods() {
        Set<String> seen = new TreeSet<>();
        for (Method method : Slewfree.class.getDeclaredMethods()) {
            if (Modifier.isPrivate(method.getModifiers())) {
                continue;
            }
            check.due("public, of the object: " + method.getName(), method.getModifiers(), Modifier.PUBLIC);
            seen.add(method.getReturnType().getSimpleName() + " " + method.getName()
                    + "(" + names(method.getParameterTypes(), ",") + ")"
                    + (method.getExceptionTypes().length == 0 ? "" : " ")
                    + names(method.getExceptionTypes(), " "));
        }
        return seen;
    }

    private static String names(Class<?>[] types, String between) {
        StringBuilder text = new StringBuilder();
        for (Class<?> type : types) {
            text.append(text.length() == 0 ? "" : between).append(type.getSimpleName());
        }
        return text.toString();
    }
}
