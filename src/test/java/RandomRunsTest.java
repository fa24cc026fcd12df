/**
 * Runs of calls drawn by a counter from a fixed seed, each call asked of the program and of Oracle.
 * Whatever is drawn, only the exceptions of the document may come.
 */
public final class RandomRunsTest {
    private static final int RUNS = 500;
    private static final int CALLS = 512;
    private static final String[] NAMES = {
        "demand", "pass", "holds", "vehicles", "section", "detector", "weather", "limit", "order", "sign",
        "isLawful", "look", "openShoulder", "shutShoulder", "stop", "report", "confirm", "incident", "pattern",
        "way", "send", "patrol", "works", "isOn", "proof", "isFined"};
    // How often each is drawn, in the order of NAMES.
    private static final int[] WEIGHTS = {
        3, 16, 5, 3, 10, 4, 2, 4, 6, 6, 3, 10, 5, 1, 4, 6, 6, 4, 3, 4, 6, 4, 5, 3, 6, 3};
    private static final int[] WILD = {-1, Integer.MIN_VALUE, Integer.MAX_VALUE, 12, 1000, -2, 601};

    private long seed;
    private int now;
    private int firstSection;
    private int sections;

    private RandomRunsTest(long seed) {
        this.seed = seed * 2654435761L + 12345;
        firstSection = draw(12);
        sections = 1 + draw(12);
    }

    public static void main(String[] args) {
        for (int run = 0; run < RUNS; run++) {
            new RandomRunsTest(run).compare(run);
        }
        Check.end();
    }

    private int draw(int below) {
        seed = seed * 6364136223846793005L + 1442695040888963407L;
        return (int) ((seed >>> 33) % below);
    }

    private void compare(int run) {
        RedcrossGantry program = new RedcrossGantry();
        Oracle oracle = new Oracle();
        for (int call = 0; call < CALLS; call++) {
            int op = drawOp();
            int[] a = new int[5];
            for (int i = 0; i < a.length; i++) {
                a[i] = drawArgument(NAMES[op], i, a);
            }
            String want = answer(() -> ask(oracle, NAMES[op], a));
            String got = answer(() -> ask(program, NAMES[op], a));
            Check.dueIs("run " + run + " call " + call + ": " + NAMES[op] + java.util.Arrays.toString(a)
                    + " answering " + got + " (" + want + " by the oracle)", true, got.equals(want));
            if (!got.equals(want)) {
                return;
            }
            now = NAMES[op].equals("pass") && Character.isDigit(got.charAt(0)) ? Integer.parseInt(got) : now;
        }
    }

    private static String answer(Check.Call call) {
        try {
            return Long.toString(call.run());
        } catch (RuntimeException e) {
            return e.getClass().getName();
        }
    }

    private int drawOp() {
        int sum = 0;
        for (int weight : WEIGHTS) {
            sum += weight;
        }
        int at = draw(sum);
        int op = 0;
        while (at >= WEIGHTS[op]) {
            at -= WEIGHTS[op];
            op++;
        }
        return op;
    }

    private int drawSection() {
        return draw(8) == 0 ? draw(14) - 1 : (firstSection + draw(sections)) % 12;
    }

    private int drawLane() {
        return draw(20) == 0 ? draw(6) - 1 : draw(3) == 0 ? 0 : draw(4);
    }

    private int drawArgument(String name, int i, int[] before) {
        if (draw(60) == 0) {
            return WILD[draw(WILD.length)];
        }
        switch (name) {
            case "demand": return draw(3) == 0 ? 40 : draw(42);
            case "pass": return draw(12) == 0 ? draw(62) : 1 + draw(4);
            case "vehicles": return draw(5);
            case "section": return i == 0 ? drawSection() : draw(6);
            case "detector": return i == 0 ? drawSection() : i == 1 ? draw(3) : draw(122);
            case "weather": return draw(3) == 0 ? draw(5) : 0;
            case "limit": return i == 0 ? drawSection() : draw(3) == 0 ? -1 : 20 * (2 + draw(5)) + draw(10) / 9;
            case "order": return i == 0 ? drawSection() : i == 1 ? drawLane() : draw(5) / 4 + draw(5) - 2;
            case "openShoulder": return i == 0 ? drawSection() : before[0] + (draw(2) == 0 ? 0 : draw(4) - 1);
            case "confirm": return draw(13);
            case "incident": return i == 0 ? draw(8) : draw(5);
            case "way": return i == 0 ? draw(3) : drawSection();
            case "send": return i == 0 ? draw(3) : draw(12);
            case "patrol": return i == 0 ? draw(3) : draw(4);
            case "works": return drawOfWorks(i, before);
            case "isOn": return draw(6);
            case "proof": return i == 0 ? now - draw(66) + 2 : i == 1 ? drawSection() : draw(6) - draw(2);
            case "isFined": return i == 0 ? now - draw(66) + 2 : i == 1 ? drawSection() : 40 + 10 * draw(12) - draw(2);
            default: return i == 0 ? drawSection() : drawLane();
        }
    }

    private int drawOfWorks(int i, int[] before) {
        switch (i) {
            case 0: return draw(12) == 0 ? draw(5) : 1 + draw(3);
            case 1: return drawSection();
            case 2: return before[1] + draw(5) - draw(8) / 7;
            case 3: return now + draw(20) - draw(10) / 9;
            default: return before[3] + draw(60);
        }
    }

    private static long ask(RedcrossGantry x, String name, int[] a) {
        switch (name) {
            case "demand": return x.demand(a[0]);
            case "pass": return x.pass(a[0]);
            case "holds": return x.holds(a[0], a[1]);
            case "vehicles": return x.vehicles(a[0]);
            case "section": return x.section(a[0], a[1]);
            case "detector": return x.detector(a[0], a[1], a[2]);
            case "weather": return x.weather(a[0]);
            case "limit": return x.limit(a[0], a[1]);
            case "order": return x.order(a[0], a[1], a[2]);
            case "sign": return x.sign(a[0], a[1]);
            case "isLawful": return Check.bit(x.isLawful());
            case "look": return Check.bit(x.look(a[0]));
            case "openShoulder": return x.openShoulder(a[0], a[1]);
            case "shutShoulder": return x.shutShoulder();
            case "stop": x.stop(a[0], a[1]); return 0;
            case "report": return x.report(a[0], a[1]);
            case "confirm": return x.confirm(a[0]);
            case "incident": return x.incident(a[0], a[1]);
            case "pattern": return x.pattern();
            case "way": return x.way(a[0], a[1]);
            case "send": return x.send(a[0], a[1]);
            case "patrol": return x.patrol(a[0], a[1]);
            case "works": return x.works(a[0], a[1], a[2], a[3], a[4]);
            case "isOn": return Check.bit(x.isOn(a[0]));
            case "proof": return x.proof(a[0], a[1], a[2]);
            default: return Check.bit(x.isFined(a[0], a[1], a[2]));
        }
    }

    private static long ask(Oracle x, String name, int[] a) {
        switch (name) {
            case "demand": return x.demand(a[0]);
            case "pass": return x.pass(a[0]);
            case "holds": return x.holds(a[0], a[1]);
            case "vehicles": return x.vehicles(a[0]);
            case "section": return x.section(a[0], a[1]);
            case "detector": return x.detector(a[0], a[1], a[2]);
            case "weather": return x.weather(a[0]);
            case "limit": return x.limit(a[0], a[1]);
            case "order": return x.order(a[0], a[1], a[2]);
            case "sign": return x.sign(a[0], a[1]);
            case "isLawful": return 1;
            case "look": return x.look(a[0]);
            case "openShoulder": return x.openShoulder(a[0], a[1]);
            case "shutShoulder": return x.shutShoulder();
            case "stop": return x.stop(a[0], a[1]);
            case "report": return x.report(a[0], a[1]);
            case "confirm": return x.confirm(a[0]);
            case "incident": return x.incident(a[0], a[1]);
            case "pattern": return x.pattern();
            case "way": return x.way(a[0], a[1]);
            case "send": return x.send(a[0], a[1]);
            case "patrol": return x.patrol(a[0], a[1]);
            case "works": return x.works(a[0], a[1], a[2], a[3], a[4]);
            case "isOn": return x.isOn(a[0]);
            case "proof": return x.proof(a[0], a[1], a[2]);
            default: return x.isFined(a[0], a[1], a[2]);
        }
    }
}
