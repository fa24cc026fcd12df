import java.lang.reflect.InvocationTargetException;
import java.lang.reflect.Method;
import java.util.ArrayList;
import java.util.Arrays;
import java.util.HashMap;
import java.util.List;
import java.util.Map;

/**
 * A program that is asked by the names of its calls, so that a fault tells the call as it was made.
 * It keeps what it was asked: of a call that is refused it makes two like programs anew, asks one of
 * them that call, and sees by every view (Views) that the two are still alike.
 */
final class Road {
    private static final Map<String, Method> CALLS = new HashMap<>();

    static {
        for (Method method : RedcrossGantry.class.getMethods()) {
            CALLS.put(method.getName(), method);
        }
    }

    private record Asked(String name, int[] with) { }

    private final List<Asked> history = new ArrayList<>();
    private final RedcrossGantry program = new RedcrossGantry();
    private int now = 0;

    /** The number that is answered, 1 or 0 for a boolean, 0 for nothing; or the exception's simple name. */
    static String answer(RedcrossGantry of, String name, int... with) {
        Method method = CALLS.get(name);
        Object[] given = new Object[with.length];
        for (int i = 0; i < with.length; i++) {
            given[i] = with[i];
        }
        try {
            Object got = method.invoke(of, given);
            if (got instanceof Boolean) {
                return (Boolean) got ? "1" : "0";
            }
            return got == null ? "0" : got.toString();
        } catch (InvocationTargetException e) {
            return e.getCause().getClass().getSimpleName();
        } catch (IllegalAccessException e) {
            throw new IllegalStateException("not a call of the face: " + name, e);
        }
    }

    static boolean isNumber(String answer) {
        return answer.matches("-?\\d+");
    }

    int now() {
        return now;
    }

    private String ask(String name, int... with) {
        String got = answer(program, name, with);
        history.add(new Asked(name, with.clone()));
        if (name.equals("pass") && isNumber(got)) {
            now = Integer.parseInt(got);
        }
        return got;
    }

    private static String written(String name, int... with) {
        return name + Arrays.toString(with).replace('[', '(').replace(']', ')');
    }

    /** Asks a call whose answer is due. */
    Road due(long want, String name, int... with) {
        Check.dueText(written(name, with) + " in the minute " + now, Long.toString(want), ask(name, with));
        return this;
    }

    /** Asks a call that throws nothing, whatever it answers. */
    Road does(String name, int... with) {
        String got = ask(name, with);
        Check.dueIs(written(name, with) + " answering " + got, true, isNumber(got));
        return this;
    }

    Road index(String name, int... with) {
        return refuses("IndexOutOfBoundsException", name, with);
    }

    Road argument(String name, int... with) {
        return refuses("IllegalArgumentException", name, with);
    }

    Road state(String name, int... with) {
        return refuses("IllegalStateException", name, with);
    }

    private Road refuses(String want, String name, int... with) {
        changesNothing(name, with);
        Check.dueText(written(name, with) + " in the minute " + now, want, ask(name, with));
        return this;
    }

    /** Sees that a call changes nothing, now and later; it is asked of a like program only. */
    Road changesNothing(String name, int... with) {
        for (int view = 0; view < Views.COUNT; view++) {
            RedcrossGantry tried = made();
            answer(tried, name, with);
            String fault = Views.difference(view, tried, made(), now);
            Check.dueText(written(name, with) + " in the minute " + now + " changing", "nothing", fault);
        }
        return this;
    }

    /** Sees that another road with another past has come to the same. */
    Road likeThat(Road other) {
        for (int view = 0; view < Views.COUNT; view++) {
            String fault = Views.difference(view, made(), other.made(), now);
            Check.dueText("all answers differing by the view " + view, "nothing", fault);
        }
        return this;
    }

    private RedcrossGantry made() {
        RedcrossGantry like = new RedcrossGantry();
        for (Asked asked : history) {
            answer(like, asked.name, asked.with);
        }
        return like;
    }

    /** What a section holds in its lanes 0 to 3. */
    Road holds(int section, int... lanes) {
        for (int lane = 0; lane < 4; lane++) {
            due(lanes[lane], "holds", section, lane);
        }
        return this;
    }

    /** The speed signs of the last sections, the section 11 at the end. */
    Road lastSpeedSigns(int... signs) {
        for (int i = 0; i < signs.length; i++) {
            due(signs[i], "section", 12 - signs.length + i, 3);
        }
        return this;
    }

    /** The lane signs of one lane in the sections from one on. */
    Road laneSigns(int lane, int from, int... signs) {
        for (int i = 0; i < signs.length; i++) {
            due(signs[i], "sign", from + i, lane);
        }
        return this;
    }

    /** A vehicle is stopped, and an incident reported and confirmed there; they are numbered from 0. */
    Road confirmed(int number, int section, int lane) {
        return does("stop", section, lane).due(number, "report", section, lane)
                .due(RedcrossGantry.CONFIRMED, "confirm", number);
    }

    /** Vehicles stop in the lanes 1 to 3 of a section, so that none goes on from there. */
    Road blocked(int section) {
        return does("stop", section, 1).does("stop", section, 2).does("stop", section, 3);
    }
}
