import java.lang.reflect.Constructor;
import java.lang.reflect.Field;
import java.lang.reflect.Method;
import java.lang.reflect.Modifier;
import java.util.Arrays;
import java.util.TreeSet;

/** The public face is the document's, and nothing else of the class is to be seen. */
public final class FaceTest {
    private static final String I = "IndexOutOfBoundsException";
    private static final String A = "IllegalArgumentException";
    private static final String S = "IllegalStateException";

    private static final String[] DUE = {
        "int part(int, int, int) " + A + " " + S, "int player(int, int, int) " + A + " " + S,
        "int scene(int, int) " + A + " " + S, "int pause(int, int) " + I + " " + A, "int sick(int, boolean) " + I,
        "int coat(int, int, int) " + A + " " + S, "int pawn(int, int) " + I + " " + S,
        "int redeem(int, int) " + I + " " + S, "int town(int, int, int) " + A + " " + S, "int night(int) " + I + " " + S,
        "int knock()", "int ofPart(int, int) " + I + " " + A, "int ofPlayer(int, int) " + I + " " + A,
        "int ofScene(int, int) " + I + " " + A, "int ofCoat(int, int) " + I + " " + A,
        "int ofTown(int, int) " + I + " " + A, "int house(int) " + A, "String cast()", "int tour(int, int) " + A,
        "int would(int) " + A, "int without(int) " + I, "int shareOf(int, int) " + I + " " + A, "boolean isSound()",
        "long digest()"};

    public static void main(String[] args) {
        Check check = new Check("FaceTest");
        TreeSet<String> found = new TreeSet<>();
        for (Method method : Doublecoat.class.getDeclaredMethods()) {
            if (!Modifier.isPrivate(method.getModifiers()) && !method.isSynthetic()) {
                found.add(Modifier.isPublic(method.getModifiers()) ? told(method) : "not public: " + method);
            }
        }
        check.due(new TreeSet<>(Arrays.asList(DUE)).toString(), () -> found.toString());
        check.due(Modifier.PUBLIC | Modifier.FINAL, () -> Doublecoat.class.getModifiers());
        Constructor<?>[] constructors = Doublecoat.class.getDeclaredConstructors();
        check.due(1, () -> constructors.length);
        check.due(Modifier.PUBLIC, () -> constructors[0].getModifiers());
        check.due(0, () -> constructors[0].getParameterCount());
        for (Field field : Doublecoat.class.getDeclaredFields()) {
            check.due(field.getName(), true, () -> Modifier.isPrivate(field.getModifiers()));
        }
        check.end();
    }

    private static String told(Method method) {
        StringBuilder told = new StringBuilder(method.getReturnType().getSimpleName());
        told.append(' ').append(method.getName()).append('(');
        for (int k = 0; k < method.getParameterCount(); k++) {
            told.append(k == 0 ? "" : ", ").append(method.getParameterTypes()[k].getSimpleName());
        }
        told.append(')');
        for (Class<?> thrown : method.getExceptionTypes()) {
            told.append(' ').append(thrown.getSimpleName());
        }
        return told.toString();
    }
}
