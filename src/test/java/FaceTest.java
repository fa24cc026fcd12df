import java.lang.reflect.Constructor;
import java.lang.reflect.Field;
import java.lang.reflect.Member;
import java.lang.reflect.Method;
import java.lang.reflect.Modifier;
import java.util.ArrayList;
import java.util.Collections;
import java.util.List;

/** The public face: just what the document lists, with its constants and throws clauses. */
public final class FaceTest {
    private static final String INDEX = "IndexOutOfBoundsException";
    private static final String ARGUMENT = "IllegalArgumentException";
    private static final String STATE = "IllegalStateException";

    private static final String[] METHODS = {
        "int demand(int) " + ARGUMENT,
        "int pass(int) " + ARGUMENT + " " + STATE,
        "int holds(int int) " + INDEX,
        "int vehicles(int) " + ARGUMENT,
        "int section(int int) " + INDEX + " " + ARGUMENT,
        "int detector(int int int) " + INDEX + " " + ARGUMENT,
        "int weather(int) " + ARGUMENT,
        "int limit(int int) " + INDEX + " " + ARGUMENT,
        "int order(int int int) " + INDEX + " " + ARGUMENT + " " + STATE,
        "int sign(int int) " + INDEX,
        "boolean isLawful()",
        "boolean look(int) " + INDEX,
        "int openShoulder(int int) " + INDEX + " " + ARGUMENT + " " + STATE,
        "int shutShoulder()",
        "void stop(int int) " + INDEX + " " + STATE,
        "int report(int int) " + INDEX + " " + STATE,
        "int confirm(int) " + INDEX + " " + STATE,
        "int incident(int int) " + INDEX + " " + ARGUMENT,
        "int pattern()",
        "int way(int int) " + INDEX,
        "int send(int int) " + INDEX + " " + STATE,
        "int patrol(int int) " + INDEX + " " + ARGUMENT,
        "int works(int int int int int) " + INDEX + " " + ARGUMENT + " " + STATE,
        "boolean isOn(int) " + INDEX,
        "int proof(int int int) " + INDEX + " " + ARGUMENT + " " + STATE,
        "boolean isFined(int int int) " + INDEX + " " + ARGUMENT + " " + STATE};

    private static final String[] CONSTANTS = {
        "NONE -1", "OPEN 0", "LEAVE 1", "CROSS 2", "CLEAR 0", "WIND 1", "FOG 2", "ICE 3",
        "GOOD 0", "STUCK 1", "DEAD 2", "SUSPECTED 0", "CONFIRMED 1", "CLEARED 2"};

    private FaceTest() {
    }

    public static void main(String[] args) throws IllegalAccessException {
        Class<?> face = RedcrossGantry.class;
        int modifiers = face.getModifiers();
        Check.dueIs("public and final", true, Modifier.isPublic(modifiers) && Modifier.isFinal(modifiers));
        constructors(face);
        methods(face);
        constants(face);
        for (Class<?> inside : face.getDeclaredClasses()) {
            boolean hidden = !Modifier.isPublic(inside.getModifiers()) && !Modifier.isProtected(inside.getModifiers());
            Check.dueIs(inside + " hidden", true, hidden);
            noNamesOfTheFace(inside);
        }
        Check.end();
    }

    private static boolean isOfTheFace(Member member) {
        return !Modifier.isPrivate(member.getModifiers()) && !member.isSynthetic();
    }

    private static void constructors(Class<?> face) {
        Constructor<?>[] all = face.getDeclaredConstructors();
        Check.due("constructors", 1, () -> all.length);
        Check.dueIs("public constructor without parameters", true,
                Modifier.isPublic(all[0].getModifiers()) && all[0].getParameterCount() == 0);
    }

    private static void methods(Class<?> face) {
        List<String> got = new ArrayList<>();
        List<String> names = new ArrayList<>();
        List<String> hidden = new ArrayList<>();
        for (Method method : face.getDeclaredMethods()) {
            if (isOfTheFace(method)) {
                got.add((Modifier.isPublic(method.getModifiers()) ? "" : "not public ") + written(method));
                names.add(method.getName());
            } else {
                hidden.add(method.getName());
            }
        }
        List<String> want = new ArrayList<>(List.of(METHODS));
        Collections.sort(got);
        Collections.sort(want);
        Check.dueIs("methods " + got, true, got.equals(want));
        hidden.retainAll(names);
        Check.dueIs("private methods of a public name " + hidden, true, hidden.isEmpty());
    }

    private static void noNamesOfTheFace(Class<?> inside) {
        for (Method method : inside.getDeclaredMethods()) {
            for (String line : METHODS) {
                Check.dueIs(inside + " " + method.getName() + " private by a name of the face", false,
                        Modifier.isPrivate(method.getModifiers()) && line.contains(" " + method.getName() + "("));
            }
        }
    }

    private static String written(Method method) {
        StringBuilder line = new StringBuilder(method.getReturnType() + " " + method.getName() + "(");
        for (Class<?> type : method.getParameterTypes()) {
            line.append(line.charAt(line.length() - 1) == '(' ? "" : " ").append(type);
        }
        line.append(')');
        for (Class<?> type : method.getExceptionTypes()) {
            line.append(' ').append(type.getSimpleName());
        }
        return line.toString();
    }

    private static void constants(Class<?> face) throws IllegalAccessException {
        List<String> got = new ArrayList<>();
        for (Field field : face.getDeclaredFields()) {
            if (isOfTheFace(field)) {
                int modifiers = field.getModifiers();
                boolean fine = Modifier.isPublic(modifiers) && Modifier.isStatic(modifiers)
                        && Modifier.isFinal(modifiers) && field.getType() == int.class;
                got.add(field.getName() + " " + (fine ? field.get(null) : "of another kind"));
            }
        }
        List<String> want = new ArrayList<>(List.of(CONSTANTS));
        Collections.sort(got);
        Collections.sort(want);
        Check.dueIs("constants " + got, true, got.equals(want));
    }
}
