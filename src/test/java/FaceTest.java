import java.lang.reflect.Constructor;
import java.lang.reflect.Field;
import java.lang.reflect.Method;
import java.lang.reflect.Modifier;
import java.util.Arrays;
import java.util.List;
import java.util.Set;
import java.util.TreeSet;

/** The public face is the document's, with nothing beside it. */
public final class FaceTest {
    private static final String INDEX = "IndexOutOfBoundsException";
    private static final String ARGUMENT = "IllegalArgumentException";
    private static final String STATE = "IllegalStateException";

    private static final List<String> FACE = List.of(
            "int lay(int, int) " + List.of(ARGUMENT),
            "int setRegion(int, int) " + List.of(INDEX, STATE),
            "int setBound(int, int) " + List.of(INDEX, ARGUMENT, STATE),
            "boolean setApart(int, int, boolean) " + List.of(INDEX, ARGUMENT, STATE),
            "boolean setOtherDays(int, int, boolean) " + List.of(INDEX, ARGUMENT, STATE),
            "int draw(int) " + List.of(STATE, INDEX),
            "int undo() " + List.of(STATE),
            "int drawn() []",
            "int pot() []",
            "int left() []",
            "int ballAt(int) " + List.of(INDEX),
            "int groupOf(int) " + List.of(INDEX),
            "int teamAt(int, int) " + List.of(INDEX),
            "int results() []",
            "boolean fits(int, int) " + List.of(INDEX),
            "int forced(int) " + List.of(INDEX),
            "int evenly(int, int) " + List.of(INDEX),
            "int orders() []",
            "int chances(int, int) " + List.of(INDEX),
            "int pairings(int, int) " + List.of(INDEX));

    public static void main(String[] args) {
        Checks checks = new Checks();
        checks.due("class", Modifier.PUBLIC | Modifier.FINAL, CupDraw.class::getModifiers);
        checks.due("methods", new TreeSet<>(FACE), FaceTest::methods);
        checks.due("fields", Set.of("public static final int CupDraw.NONE"), FaceTest::fields);
        checks.due("constructors", "[public CupDraw()]",
                () -> Arrays.toString(CupDraw.class.getDeclaredConstructors()));
        checks.due("a new object", true, () -> isPlain(CupDraw.class.getConstructors()));
        checks.end("FaceTest");
    }

    private static boolean isPlain(Constructor<?>[] constructors) {
        return constructors.length == 1 && constructors[0].getExceptionTypes().length == 0;
    }

    private static Set<String> methods() {
        Set<String> found = new TreeSet<>();
        for (Method method : CupDraw.class.getDeclaredMethods()) {
            if (!Modifier.isPrivate(method.getModifiers()) && !method.isSynthetic()) {
                found.add(method.getReturnType() + " " + method.getName() + "("
                        + names(method.getParameterTypes(), ", ") + ") ["
                        + names(method.getExceptionTypes(), ", ") + "]");
            }
        }
        return found;
    }

    private static Set<String> fields() {
        Set<String> found = new TreeSet<>();
        for (Field field : CupDraw.class.getDeclaredFields()) {
            if (!Modifier.isPrivate(field.getModifiers()) && !field.isSynthetic()) {
                found.add(field.toString());
            }
        }
        return found;
    }

    private static String names(Class<?>[] types, String between) {
        return String.join(between,
                Arrays.stream(types).map(Class::getSimpleName).toArray(String[]::new));
    }
}
