import java.lang.reflect.Constructor;
import java.lang.reflect.Field;
import java.lang.reflect.Method;
import java.lang.reflect.Modifier;
import java.util.Arrays;
import java.util.HashSet;
import java.util.Set;
import java.util.TreeSet;

/** The public face of the document, and what LANGUAGE.md asks of the class that reflection can see. */
public final class FaceTest {
    private static final Due due = new Due();
    private static final String[] FACE = {
        "int octets(int, long) IllegalArgumentException IndexOutOfBoundsException",
        "int read() IllegalArgumentException IndexOutOfBoundsException",
        "int place()",
        "int wave(int, int, double) IllegalArgumentException IndexOutOfBoundsException",
        "int clear()",
        "double sample(int) IndexOutOfBoundsException",
        "double power(int, int) IndexOutOfBoundsException IllegalArgumentException",
        "double level(int, int) IndexOutOfBoundsException IllegalArgumentException",
        "void ways(double, int, double) IllegalArgumentException",
        "int learn(int, int, int) IllegalArgumentException IndexOutOfBoundsException",
        "int forget(int) NoSuchElementException",
        "double warp(int, int) NoSuchElementException",
        "int hear() IllegalStateException",
        "int word(int, int) NoSuchElementException IllegalArgumentException",
        "double cost(int) NoSuchElementException IllegalStateException",
        "int count(int) IllegalArgumentException",
    };

    public static void main(String[] args) {
        methods();
        constructorsAndFields();
        classesInside();
        due.end();
    }

    private static String written(Method method) {
        StringBuilder text = new StringBuilder();
        text.append(method.getReturnType()).append(' ').append(method.getName()).append('(');
        for (int i = 0; i < method.getParameterCount(); i++) {
            text.append(i == 0 ? "" : ", ").append(method.getParameterTypes()[i]);
        }
        text.append(')');
        for (Class<?> thrown : method.getExceptionTypes()) {
            text.append(' ').append(thrown.getSimpleName());
        }
        return text.toString();
    }

    private static void methods() {
        Set<String> seen = new TreeSet<>();
        for (Method method : HearingDesk.class.getDeclaredMethods()) {
            if (Modifier.isPrivate(method.getModifiers())) {
                due.same(method + " bears a public name", publicNames().contains(method.getName()) ? 1 : 0, 0);
            } else {
                due.same(method + " is public, of the object", method.getModifiers(), Modifier.PUBLIC);
                seen.add(written(method));
            }
        }
        due.text("the face", seen.toString(), new TreeSet<>(Arrays.asList(FACE)).toString());
        due.same("public and final", HearingDesk.class.getModifiers(), Modifier.PUBLIC | Modifier.FINAL);
    }

    private static Set<String> publicNames() {
        Set<String> names = new HashSet<>();
        for (String line : FACE) {
            names.add(line.substring(line.indexOf(' ') + 1, line.indexOf('(')));
        }
        return names;
    }

    private static void constructorsAndFields() {
        Constructor<?>[] all = HearingDesk.class.getDeclaredConstructors();
        due.same("constructors", all.length, 1);
        due.same("its parameters", all[0].getParameterCount(), 0);
        due.same("it is public", all[0].getModifiers(), Modifier.PUBLIC);
        fields(HearingDesk.class);
        for (Field field : HearingDesk.class.getDeclaredFields()) {
            due.same(field + " is private", Modifier.isPrivate(field.getModifiers()) ? 1 : 0, 1);
        }
    }

    private static void fields(Class<?> type) {
        int own = 0;
        Set<Class<?>> constants = Set.of(int.class, long.class, boolean.class, char.class, String.class);
        for (Field field : type.getDeclaredFields()) {
            if (Modifier.isStatic(field.getModifiers())) {
                due.same(field + " is final", Modifier.isFinal(field.getModifiers()) ? 1 : 0, 1);
                due.same(field + " is a constant", constants.contains(field.getType()) ? 1 : 0, 1);
            } else {
                own++;
            }
        }
        due.same(type + " has some twenty fields at most", own <= 20 ? 1 : 0, 1);
    }

    private static void classesInside() {
        Class<?>[] inside = HearingDesk.class.getDeclaredClasses();
        due.same("some twelve classes at most", inside.length <= 12 ? 1 : 0, 1);
        for (Class<?> type : inside) {
            due.same(type + " is private and static", type.getModifiers()
                & (Modifier.PRIVATE | Modifier.STATIC), Modifier.PRIVATE | Modifier.STATIC);
            fields(type);
            for (Method method : type.getDeclaredMethods()) {
                due.same(method + " bears a public name", publicNames().contains(method.getName()) ? 1 : 0, 0);
                due.same(method + " takes seven at most", method.getParameterCount() <= 7 ? 1 : 0, 1);
            }
        }
    }
}
