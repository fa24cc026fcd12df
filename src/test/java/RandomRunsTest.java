import java.lang.reflect.InvocationTargetException;
import java.lang.reflect.Method;
import java.util.Arrays;

/**
 * Runs of calls drawn by a counter from a fixed seed, each call asked of the program and of Oracle.
 * Whatever is drawn, only the exceptions of the document may come.
 */
public final class RandomRunsTest {
    private static final int RUNS = 500;
    private static final int CALLS = 512;
    private static final String[] NAMES = {
        "demand", "pass", "holds", "vehicles", "section", "detector", "weather", "limit", "order", "sign",
        "isLawful", "look", "openShoulder", "shutShoulder", "stop", "report", "confirm", "incident", "pattern",
        "way", "send", "patrol", "works", "isOn", "proof", "isFined"};
    // How often each is drawn, in the order of NAMES.
    private static final int[] WEIGHTS = {
        3, 16, 5, 3, 10, 4, 2, 4, 6, 6, 3, 10, 5, 1, 4, 6, 6, 4, 3, 4, 6, 4, 5, 3, 6, 3};
    private static final int[] WILD = {-1, Integer.MIN_VALUE, Integer.MAX_VALUE, 12, 1000, -2, 601};

    private static final Method[] OF_PROGRAM = new Method[NAMES.length];
    private static final Method[] OF_ORACLE = new Method[NAMES.length];

    private final int[] weights = WEIGHTS.clone();
    private long seed;
    private int now;
    private int firstSection;
    private int sections;

    private RandomRunsTest(long seed) {
        this.seed = seed * 2654435761L + 12345;
        firstSection = draw(12);
        sections = 1 + draw(12);
        // Each run asks some calls far more often than others, so that it comes to what is rare.
        for (int op = 0; op < weights.length; op++) {
            weights[op] *= draw(4) == 0 ? 5 : 1;
        }
    }

    public static void main(String[] args) throws ReflectiveOperationException {
        findMethods();
        for (int run = 0; run < RUNS; run++) {
            new RandomRunsTest(run).compare(run);
        }
        Check.end();
    }

    private int draw(int below) {
        seed = seed * 6364136223846793005L + 1442695040888963407L;
        return (int) ((seed >>> 33) % below);
    }

    private void compare(int run) throws ReflectiveOperationException {
        RedcrossGantry program = new RedcrossGantry();
        Oracle oracle = new Oracle();
        for (int call = 0; call < CALLS; call++) {
            int op = drawOp();
            int[] a = new int[5];
            for (int i = 0; i < a.length; i++) {
                a[i] = drawArgument(NAMES[op], i, a);
            }
            String want = answer(OF_ORACLE[op], oracle, a);
            String got = answer(OF_PROGRAM[op], program, a);
            Check.dueIs("run " + run + " call " + call + ": " + NAMES[op] + Arrays.toString(a)
                    + " answering " + got + " (" + want + " by the oracle)", true, got.equals(want));
            if (!got.equals(want)) {
                return;
            }
            now = NAMES[op].equals("pass") && Character.isDigit(got.charAt(0)) ? Integer.parseInt(got) : now;
        }
    }

    // The number that is answered, 1 or 0 for a boolean, 0 for nothing; or the exception's name.
    private static String answer(Method method, Object of, int[] a) throws IllegalAccessException {
        Object[] given = new Object[method.getParameterCount()];
        for (int i = 0; i < given.length; i++) {
            given[i] = a[i];
        }
        try {
            Object got = method.invoke(of, given);
            if (got instanceof Boolean) {
                return (Boolean) got ? "1" : "0";
            }
            return got == null ? "0" : got.toString();
        } catch (InvocationTargetException e) {
            return e.getCause().getClass().getName();
        }
    }

    private static void findMethods() throws NoSuchMethodException {
        for (int op = 0; op < NAMES.length; op++) {
            for (Method method : RedcrossGantry.class.getMethods()) {
                if (method.getName().equals(NAMES[op])) {
                    OF_PROGRAM[op] = method;
                    OF_ORACLE[op] = Oracle.class.getDeclaredMethod(NAMES[op], method.getParameterTypes());
                }
            }
        }
    }

    private int drawOp() {
        int sum = 0;
        for (int weight : weights) {
            sum += weight;
        }
        int at = draw(sum);
        int op = 0;
        while (at >= weights[op]) {
            at -= weights[op];
            op++;
        }
        return op;
    }

    private int drawSection() {
        return draw(8) == 0 ? draw(14) - 1 : (firstSection + draw(sections)) % 12;
    }

    private int drawLane() {
        return draw(20) == 0 ? draw(6) - 1 : draw(3) == 0 ? 0 : draw(4);
    }

    private int drawArgument(String name, int i, int[] before) {
        if (draw(60) == 0) {
            return WILD[draw(WILD.length)];
        }
        switch (name) {
            case "demand": return draw(3) == 0 ? 40 : draw(42);
            case "pass": return draw(12) == 0 ? draw(62) : 1 + draw(4);
            case "vehicles": return draw(5);
            case "section": return i == 0 ? drawSection() : draw(6);
            case "detector": return i == 0 ? drawSection() : i == 1 ? draw(3) : draw(122);
            case "weather": return draw(3) == 0 ? draw(5) : 0;
            case "limit": return i == 0 ? drawSection() : draw(3) == 0 ? -1 : 20 * (2 + draw(5)) + draw(10) / 9;
            case "order": return i == 0 ? drawSection() : i == 1 ? drawLane() : draw(5) / 4 + draw(5) - 2;
            case "openShoulder": return i == 0 ? drawSection() : before[0] + (draw(2) == 0 ? 0 : draw(4) - 1);
            case "confirm": return draw(13);
            case "incident": return i == 0 ? draw(8) : draw(5);
            case "way": return i == 0 ? draw(3) : drawSection();
            case "send": return i == 0 ? draw(3) : draw(12);
            case "patrol": return i == 0 ? draw(3) : draw(4);
            case "works": return drawOfWorks(i, before);
            case "isOn": return draw(6);
            case "proof": return i == 0 ? now - draw(66) + 2 : i == 1 ? drawSection() : draw(6) - draw(2);
            case "isFined": return i == 0 ? now - draw(66) + 2 : i == 1 ? drawSection() : 40 + 10 * draw(12) - draw(2);
            default: return i == 0 ? drawSection() : drawLane();
        }
    }

    private int drawOfWorks(int i, int[] before) {
        switch (i) {
            case 0: return draw(12) == 0 ? draw(5) : 1 + draw(3);
            case 1: return drawSection();
            case 2: return before[1] + draw(5) - draw(8) / 7;
            case 3: return now + draw(20) - draw(10) / 9;
            default: return before[3] + draw(60);
        }
    }
}
