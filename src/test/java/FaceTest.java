import java.lang.reflect.Constructor;
import java.lang.reflect.Field;
import java.lang.reflect.Method;
import java.lang.reflect.Modifier;
import java.util.Set;
import java.util.TreeSet;

/** The public face: exactly the document's constructor and methods, and nothing else that can be seen. */
public final class FaceTest {
    private static final String OUT = "IndexOutOfBoundsException";
    private static final String BAD = "IllegalArgumentException";
    private static final String STATE = "IllegalStateException";

    private static final Check check = new Check();

    public static void main(String[] args) {
        Set<String> due = new TreeSet<>(Set.of(
                "int crane(int,int) " + BAD + " " + STATE,
                "int table(int,int,int,int,int) " + OUT + " " + BAD,
                "int zone(int,int,int,int,int) " + OUT + " " + BAD + " " + STATE,
                "int meeting(int,int,int,int) " + OUT + " " + BAD + " " + STATE,
                "int rope(int) " + OUT,
                "int wind(int,int,int) " + BAD,
                "int pass(int) " + BAD + " " + STATE,
                "boolean lock(int,boolean) " + OUT + " " + STATE,
                "int lift(int,int,int,int,int) " + OUT + " " + BAD,
                "int tandem(int,int,int,int) " + OUT + " " + BAD,
                "int tear(int) " + OUT,
                "int knock()",
                "int ofCrane(int,int) " + OUT + " " + BAD,
                "int page(int,int) " + OUT + " " + BAD,
                "int site(int) " + BAD,
                "String jibs()",
                "int capacity(int,int) " + OUT + " " + BAD,
                "int would(int,int,int,int,int,boolean) " + OUT + " " + BAD,
                "int bearable(int,int) " + OUT + " " + BAD,
                "boolean isSound()",
                "long digest()"));
        check.due("methods", seenMethods(), due);
        check.due("the class", Slewfree.class.getModifiers(), Modifier.PUBLIC | Modifier.FINAL);
        check.due("its package", Slewfree.class.getPackageName(), "");
        Constructor<?>[] constructors = Slewfree.class.getDeclaredConstructors();
        check.due("constructors", constructors.length, 1);
        check.due("its parameters", constructors[0].getParameterCount(), 0);
        check.due("it is public", Modifier.isPublic(constructors[0].getModifiers()), true);
        for (Field field : Slewfree.class.getDeclaredFields()) {
            check.due("private " + field.getName(), Modifier.isPrivate(field.getModifiers()), true);
        }
        check.end();
    }

    private static Set<String> seenMethods() {
        Set<String> seen = new TreeSet<>();
        for (Method method : Slewfree.class.getDeclaredMethods()) {
            if (Modifier.isPrivate(method.getModifiers())) {
                continue;
            }
            check.due("public, of the object: " + method.getName(), method.getModifiers(), Modifier.PUBLIC);
            seen.add(method.getReturnType().getSimpleName() + " " + method.getName()
                    + "(" + names(method.getParameterTypes(), ",") + ")"
                    + (method.getExceptionTypes().length == 0 ? "" : " ")
                    + names(method.getExceptionTypes(), " "));
        }
        return seen;
    }

    private static String names(Class<?>[] types, String between) {
        StringBuilder text = new StringBuilder();
        for (Class<?> type : types) {
            text.append(text.length() == 0 ? "" : between).append(type.getSimpleName());
        }
        return text.toString();
    }
}
