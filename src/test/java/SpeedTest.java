/** Promises 7 to 9: detector, weather, limit; beliefs and speed signs. */
public final class SpeedTest {
    private static final int NONE = RedcrossGantry.NONE;
    private static final int GOOD = RedcrossGantry.GOOD;
    private static final int STUCK = RedcrossGantry.STUCK;
    private static final int DEAD = RedcrossGantry.DEAD;

    private SpeedTest() {
    }

    public static void main(String[] args) {
        detectorAnswers();
        guesses();
        stuckAgainstGuess();
        wantByBelief();
        weatherAnswers();
        weatherLets();
        limitAnswers();
        limitsBeatWeather();
        signsHold();
        signsHoldAfterACap();
        signsHoldWhenLoweredAgain();
        Check.end();
    }

    private static void signs(String when, RedcrossGantry x, int... due) {
        for (int i = 0; i < due.length; i++) {
            int section = 12 - due.length + i;
            Check.due("speed sign of " + section + " " + when, due[i], () -> x.section(section, 3));
        }
    }

    private static void detectorAnswers() {
        RedcrossGantry x = new RedcrossGantry();
        Check.index("detector(-1, ..)", () -> x.detector(-1, 9, 0));
        Check.index("detector(12, ..)", () -> x.detector(12, GOOD, 0));
        Check.argument("detector is -1", () -> x.detector(0, -1, 0));
        Check.argument("detector is 3", () -> x.detector(0, 3, 0));
        Check.argument("stuck at -1", () -> x.detector(0, STUCK, -1));
        Check.argument("stuck at 121", () -> x.detector(0, STUCK, 121));
        Check.due("nothing has changed", GOOD, () -> x.section(0, 5));
        Check.due("stuck at 0", GOOD, () -> x.detector(0, STUCK, 0));
        Check.due("stuck at 120", STUCK, () -> x.detector(0, STUCK, 120));
        Check.due("dead", STUCK, () -> x.detector(0, DEAD, Integer.MIN_VALUE));
        Check.due("good", DEAD, () -> x.detector(0, GOOD, 121));
        Check.due("belief when good again", 120, () -> x.section(0, 1));
    }

    private static void guesses() {
        RedcrossGantry x = new RedcrossGantry();
        x.demand(3);
        x.pass(1);
        Check.due("rounded down", 117, () -> x.section(1, 2));
        x.detector(2, DEAD, 0);
        Check.due("of the one ahead alone", 115, () -> x.section(1, 2));
        x.detector(0, STUCK, 7);
        Check.due("of none", NONE, () -> x.section(1, 2));
        x.detector(2, GOOD, 0);
        Check.due("of the one behind alone", 120, () -> x.section(1, 2));
        Check.due("a good one believes itself", 120, () -> x.section(1, 1));
        x.detector(1, DEAD, 0);
        Check.due("a dead one believes the guess", 120, () -> x.section(1, 1));
        x.detector(2, DEAD, 0);
        Check.due("or nothing", NONE, () -> x.section(1, 1));
        x.detector(10, DEAD, 0);
        Check.due("the last one has none behind", NONE, () -> x.section(11, 2));
        Check.due("far ones do not count", 120, () -> x.section(3, 2));
    }

    private static void stuckAgainstGuess() {
        RedcrossGantry x = new RedcrossGantry();
        x.detector(5, STUCK, 90);
        Check.due("30 below the guess", 90, () -> x.section(5, 1));
        x.detector(5, STUCK, 89);
        Check.due("31 below the guess", 120, () -> x.section(5, 1));
        for (int lane = 1; lane < 4; lane++) {
            x.stop(1, lane);
        }
        x.demand(40);
        x.pass(10);
        Check.due("the full section", 20, () -> x.section(1, 0));
        x.detector(0, STUCK, 50);
        Check.due("30 above the guess", 50, () -> x.section(0, 1));
        x.detector(0, STUCK, 51);
        Check.due("31 above the guess", 20, () -> x.section(0, 1));
        x.detector(1, DEAD, 0);
        Check.due("without a guess", 51, () -> x.section(0, 1));
        x.detector(0, STUCK, 0);
        Check.due("without a guess, at 0", 0, () -> x.section(0, 1));
    }

    private static void wantByBelief() {
        int[] numbers = {0, 39, 40, 59, 60, 79, 80, 120};
        int[] due = {40, 40, 60, 60, 80, 80, 120, 120};
        for (int i = 0; i < numbers.length; i++) {
            RedcrossGantry x = new RedcrossGantry();
            x.detector(10, DEAD, 0);
            x.detector(11, STUCK, numbers[i]);
            Check.due("belief", numbers[i], () -> x.section(11, 1));
            x.pass(1);
            signs("at " + numbers[i], x, Math.min(120, due[i] + 20), due[i]);
        }
        RedcrossGantry x = new RedcrossGantry();
        x.detector(10, DEAD, 0);
        x.detector(11, DEAD, 0);
        x.pass(1);
        signs("without a belief", x, 80, 60);
        x.weather(RedcrossGantry.ICE);
        x.pass(1);
        signs("without a belief on ice", x, 40, 40);
    }

    private static void weatherAnswers() {
        RedcrossGantry x = new RedcrossGantry();
        Check.argument("weather(-1)", () -> x.weather(-1));
        Check.argument("weather(4)", () -> x.weather(4));
        Check.due("weather(ICE)", RedcrossGantry.CLEAR, () -> x.weather(RedcrossGantry.ICE));
        Check.due("weather(FOG)", RedcrossGantry.ICE, () -> x.weather(RedcrossGantry.FOG));
        Check.due("weather(WIND)", RedcrossGantry.FOG, () -> x.weather(RedcrossGantry.WIND));
        Check.due("weather(CLEAR)", RedcrossGantry.WIND, () -> x.weather(RedcrossGantry.CLEAR));
    }

    private static void weatherLets() {
        int[] due = {120, 80, 60, 40};
        for (int weather = 0; weather < 4; weather++) {
            RedcrossGantry x = new RedcrossGantry();
            x.weather(weather);
            signs("before the next minute", x, 120);
            x.pass(1);
            for (int section = 0; section < 12; section++) {
                int s = section;
                Check.due("weather " + weather, due[weather], () -> x.section(s, 3));
            }
        }
    }

    private static void limitAnswers() {
        RedcrossGantry x = new RedcrossGantry();
        Check.index("limit(-1, ..)", () -> x.limit(-1, 40));
        Check.index("limit(12, 50)", () -> x.limit(12, 50));
        int[] wrong = {-2, 0, 20, 39, 41, 50, 119, 121, 140, Integer.MIN_VALUE, Integer.MAX_VALUE};
        for (int limit : wrong) {
            Check.argument("limit(0, " + limit + ")", () -> x.limit(0, limit));
        }
        int before = NONE;
        for (int limit = 40; limit <= 120; limit += 20) {
            int now = limit;
            Check.due("limit(0, " + now + ")", before, () -> x.limit(0, now));
            before = now;
        }
        Check.due("take it back", 120, () -> x.limit(0, NONE));
        Check.due("take back nothing", NONE, () -> x.limit(0, NONE));
    }

    private static void limitsBeatWeather() {
        RedcrossGantry x = new RedcrossGantry();
        x.weather(RedcrossGantry.ICE);
        x.limit(11, 120);
        x.limit(10, 100);
        x.limit(8, 80);
        signs("before the next minute", x, 120, 120, 120, 120);
        x.pass(1);
        signs("on ice", x, 60, 40, 100, 120);
        x.weather(RedcrossGantry.CLEAR);
        x.limit(11, 40);
        x.limit(10, 120);
        x.limit(9, 60);
        x.pass(1);
        signs("step by step", x, 80, 60, 60, 40);
    }

    private static void signsHold() {
        RedcrossGantry x = new RedcrossGantry();
        x.limit(11, 60);
        x.pass(1);
        x.limit(11, NONE);
        x.pass(1);
        signs("1 minute later", x, 60);
        x.limit(11, 40);
        x.pass(1);
        signs("lower at once", x, 40);
        x.limit(11, 100);
        x.pass(1);
        signs("by hand at once", x, 100);
        x.limit(11, NONE);
        x.pass(1);
        signs("held by what was lowered 2 minutes ago", x, 100);
        x.pass(1);
        signs("3 minutes later", x, 120);
        x.weather(RedcrossGantry.WIND);
        x.pass(1);
        x.weather(RedcrossGantry.ICE);
        x.pass(1);
        x.weather(RedcrossGantry.FOG);
        x.pass(2);
        signs("held on ice", x, 40);
        x.pass(1);
        signs("fog after ice", x, 60);
        x.weather(RedcrossGantry.CLEAR);
        x.pass(1);
        signs("a rise holds nothing", x, 120);
    }

    private static void signsHoldAfterACap() {
        RedcrossGantry x = new RedcrossGantry();
        x.limit(11, 40);
        x.pass(1);
        signs("in steps", x, 120, 120, 100, 80, 60, 40);
        x.limit(11, 120);
        x.pass(1);
        signs("the others hold", x, 120, 120, 100, 80, 60, 120);
        x.pass(1);
        signs("the others hold", x, 120, 120, 100, 80, 60, 120);
        x.pass(1);
        signs("all rise", x, 120, 120, 120, 120, 120, 120);
    }

    private static void signsHoldWhenLoweredAgain() {
        RedcrossGantry x = new RedcrossGantry();
        x.limit(10, 80);
        x.pass(1);
        x.limit(10, NONE);
        x.limit(11, 40);
        x.pass(1);
        signs("held, but capped", x, 80, 60, 40);
        x.limit(11, 120);
        x.pass(2);
        signs("2 minutes after the cap", x, 80, 60, 120);
        x.pass(1);
        signs("3 minutes after the cap", x, 120, 120, 120);
    }
}
