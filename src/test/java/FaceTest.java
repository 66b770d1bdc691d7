import java.lang.reflect.Constructor;
import java.lang.reflect.Field;
import java.lang.reflect.Method;
import java.lang.reflect.Modifier;
import java.util.ArrayList;
import java.util.Collections;
import java.util.List;

/** The public face, and the rules 1 and 5 of LANGUAGE.md that reflection can see. */
public final class FaceTest {
    private static final Due DUE = new Due();
    private static final String ARGUMENT = "IllegalArgumentException";
    private static final String STATE = "IllegalStateException";
    private static final String INDEX = "IndexOutOfBoundsException";

    public static void main(String[] args) {
        DUE.compare("the class", "public final", Modifier.toString(ReelLoom.class.getModifiers()));
        for (Constructor<?> constructor : ReelLoom.class.getDeclaredConstructors()) {
            DUE.compare("the constructor", "public ReelLoom()", constructor.toGenericString());
        }
        DUE.compare("the methods", String.join("\n", face()), String.join("\n", visibleMethods()));
        namesOfPrivateMethodsAreTheirOwn();
        for (Field field : ReelLoom.class.getDeclaredFields()) {
            int marks = field.getModifiers();
            DUE.compare(field + " is private", "true", "" + Modifier.isPrivate(marks));
            DUE.compare(field + " is no state of the class", "true",
                    "" + (!Modifier.isStatic(marks) || Modifier.isFinal(marks)));
        }
        DUE.end("FaceTest");
    }

    private static List<String> face() {
        List<String> face = new ArrayList<>(List.of(
                "mount int int : " + ARGUMENT,
                "off int : " + ARGUMENT + " " + STATE,
                "swap int : " + ARGUMENT,
                "copy int : " + ARGUMENT + " " + STATE,
                "size int boolean : " + ARGUMENT,
                "get int int : " + ARGUMENT + " " + STATE + " " + INDEX,
                "set int int int : " + ARGUMENT + " " + STATE + " " + INDEX,
                "alter int int int int : " + ARGUMENT + " " + STATE + " " + INDEX,
                "weave int int : UnsupportedOperationException " + ARGUMENT));
        face.addAll(List.of(
                "pass int int : " + ARGUMENT + " " + STATE + " " + INDEX,
                "stop int : " + ARGUMENT,
                "cut int : " + STATE + " " + INDEX,
                "cell int int : " + STATE + " " + INDEX,
                "dye int int int int : " + ARGUMENT + " " + STATE + " " + INDEX,
                "seam int int : " + STATE + " " + INDEX,
                "sum int : " + ARGUMENT));
        Collections.sort(face);
        return face;
    }

    private static List<String> visibleMethods() {
        List<String> visible = new ArrayList<>();
        for (Method method : ReelLoom.class.getDeclaredMethods()) {
            if (!Modifier.isPrivate(method.getModifiers())) {
                visible.add(described(method));
                DUE.compare(method + " has the marks", "public", Modifier.toString(method.getModifiers()));
                DUE.compare(method + " answers", "int", method.getReturnType().getSimpleName());
            }
        }
        Collections.sort(visible);
        return visible;
    }

    private static String described(Method method) {
        StringBuilder text = new StringBuilder(method.getName());
        for (Class<?> parameter : method.getParameterTypes()) {
            text.append(' ').append(parameter.getSimpleName());
        }
        text.append(" :");
        for (Class<?> thrown : method.getExceptionTypes()) {
            text.append(' ').append(thrown.getSimpleName());
        }
        return text.toString();
    }

    private static void namesOfPrivateMethodsAreTheirOwn() {
        List<String> names = new ArrayList<>();
        for (String line : face()) {
            names.add(line.substring(0, line.indexOf(' ')));
        }
        for (Method method : ReelLoom.class.getDeclaredMethods()) {
            if (Modifier.isPrivate(method.getModifiers())) {
                DUE.compare(method + " bears a public name", "false", "" + names.contains(method.getName()));
            }
        }
    }

    private FaceTest() {
    }
}
