import java.lang.reflect.Constructor;
import java.lang.reflect.Field;
import java.lang.reflect.Member;
import java.lang.reflect.Method;
import java.lang.reflect.Modifier;
import java.util.Arrays;
import java.util.Set;
import java.util.TreeSet;

/** The public face has what the document lists, and nothing else is seen from outside. */
public final class FaceTest {
    private static final String[] FACE = {
        "boolean circulation(int, int)", "boolean ill(int, int)", "boolean miss(int)", "boolean stop(int, boolean)",
        "int cancel(int)", "int count(int)", "int feature(int, int, int, int, int)", "int feed(long, long, long)",
        "int income(int)", "int look(int, int)", "int panel(int)", "int paper(int, int, int)",
        "int right(int, int, int)", "int sells(int, int)", "int send(int)", "int share(int, int)",
        "int sign(int, int)", "int text()", "int weeks(int)"};

    public static void main(String[] args) throws NoSuchFieldException {
        Class<?> face = PanelHouse.class;
        Checks.due("public final", Modifier.isPublic(face.getModifiers()) && Modifier.isFinal(face.getModifiers()), true);
        Set<String> seen = new TreeSet<>();
        for (Method method : face.getDeclaredMethods()) {
            if (isSeen(method)) {
                seen.add(method.getReturnType() + " " + method.getName() + parameters(method));
            }
        }
        Checks.tell("methods seen", seen.toString(), new TreeSet<>(Arrays.asList(FACE)).toString());
        int constructors = 0;
        for (Constructor<?> constructor : face.getDeclaredConstructors()) {
            constructors += isSeen(constructor) ? 1 : 0;
        }
        Checks.due("constructors seen", constructors, 1);
        checkFields(face);
        checkPrivateNames(face);
        Checks.due("NONE", PanelHouse.NONE, -1);
        Checks.end();
    }

    private static boolean isSeen(Member member) {
        return !Modifier.isPrivate(member.getModifiers()) && !member.isSynthetic();
    }

    private static String parameters(Method method) {
        String types = Arrays.toString(method.getParameterTypes());
        return "(" + types.substring(1, types.length() - 1) + ")";
    }

    private static void checkFields(Class<?> face) {
        for (Field field : face.getDeclaredFields()) {
            if (isSeen(field)) {
                Checks.tell("field seen", field.getName(), "NONE");
            }
            if (Modifier.isStatic(field.getModifiers())) {
                Checks.due(field.getName() + " is final", Modifier.isFinal(field.getModifiers()), true);
            }
        }
    }

    /** No method of a class inside bears the name of a public one either. */
    private static void checkPrivateNames(Class<?> face) {
        Set<String> names = new TreeSet<>();
        for (String method : FACE) {
            names.add(method.substring(method.indexOf(' ') + 1, method.indexOf('(')));
        }
        for (Class<?> inside : face.getDeclaredClasses()) {
            Checks.due(inside.getName() + " is static", Modifier.isStatic(inside.getModifiers()), true);
            for (Method method : inside.getDeclaredMethods()) {
                Checks.due(inside.getName() + "." + method.getName() + " is named as the face",
                        names.contains(method.getName()), false);
            }
        }
    }
}
