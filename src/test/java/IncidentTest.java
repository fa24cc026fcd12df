/** Promises 16 to 23: stop, report, confirm, incident, pattern, way, send, patrol. */
public final class IncidentTest {
    private static final int NONE = RedcrossGantry.NONE;
    private static final int SUSPECTED = RedcrossGantry.SUSPECTED;
    private static final int CONFIRMED = RedcrossGantry.CONFIRMED;
    private static final int CLEARED = RedcrossGantry.CLEARED;

    private IncidentTest() {
    }

    public static void main(String[] args) {
        stops();
        reportAnswers();
        twelveIncidents();
        confirmAnswers();
        incidentAnswers();
        patterns();
        wayAnswers();
        waysThroughTheOpenShoulder();
        wayThroughTheOpenEnd();
        sendAnswers();
        patrolAtWork();
        theWayIsTakenAsItWas();
        twoPatrols();
        atTheCorners();
        Check.end();
    }

    private static long stop(RedcrossGantry x, int section, int lane) {
        x.stop(section, lane);
        return 0;
    }

    private static void stops() {
        RedcrossGantry x = new RedcrossGantry();
        Check.index("stop(-1, 0)", () -> stop(x, -1, 0));
        Check.index("stop(12, 0)", () -> stop(x, 12, 0));
        Check.index("stop(0, -1)", () -> stop(x, 0, -1));
        Check.index("stop(0, 4)", () -> stop(x, 0, 4));
        Check.due("stop(0, 1)", 0, () -> stop(x, 0, 1));
        Check.state("stop(0, 1) again", () -> stop(x, 0, 1));
        Check.due("stop(0, 2)", 0, () -> stop(x, 0, 2));
        Check.due("stop(1, 0) in the shut shoulder", 0, () -> stop(x, 1, 0));
        Check.state("stop(1, 0) again", () -> stop(x, 1, 0));
        Check.due("it is none of those held", 0, () -> x.holds(0, 1));
        Check.due("it is none of those on the road", 0, () -> x.vehicles(1));
        x.demand(24);
        x.pass(2);
        // 8 stay in each of both, and of the next 24 the first 8 fill up the lane 3.
        Check.due("none goes on", 14, () -> x.holds(0, 1));
        Check.due("none goes on", 13, () -> x.holds(0, 2));
        Check.due("others go on", 8, () -> x.holds(1, 3));
        Check.due("none from the lane 1", 0, () -> x.holds(1, 1));
    }

    private static void reportAnswers() {
        RedcrossGantry x = new RedcrossGantry();
        Check.index("report(-1, 0)", () -> x.report(-1, 0));
        Check.index("report(12, 1)", () -> x.report(12, 1));
        Check.index("report(0, -1)", () -> x.report(0, -1));
        Check.index("report(0, 4)", () -> x.report(0, 4));
        for (int lane = 1; lane < 4; lane++) {
            int l = lane;
            Check.state("at the section 0", () -> x.report(0, l));
        }
        Check.due("the shoulder of the section 0", 0, () -> x.report(0, 0));
        Check.state("suspected there, the first one", () -> x.report(0, 0));
        Check.due("the next one", 1, () -> x.report(1, 1));
        Check.state("suspected there", () -> x.report(1, 1));
        x.stop(1, 1);
        x.confirm(1);
        Check.state("confirmed there", () -> x.report(1, 1));
        x.confirm(0);
        Check.due("cleared there", 2, () -> x.report(0, 0));
        Check.due("how the new one is", SUSPECTED, () -> x.incident(2, 2));
    }

    private static void twelveIncidents() {
        RedcrossGantry x = new RedcrossGantry();
        for (int i = 0; i < 12; i++) {
            int number = i;
            Check.due("report", number, () -> x.report(number, 0));
            x.confirm(number);
        }
        Check.state("there are 12", () -> x.report(5, 1));
        Check.index("there is no 13th", () -> x.incident(12, 0));
        Check.due("the 12th", 11, () -> x.incident(11, 0));
    }

    private static void confirmAnswers() {
        RedcrossGantry x = new RedcrossGantry();
        Check.index("confirm(0) without one", () -> x.confirm(0));
        Check.index("confirm(-1)", () -> x.confirm(-1));
        x.report(3, 2);
        x.stop(3, 1);
        Check.due("stopped beside it", CLEARED, () -> x.confirm(0));
        Check.state("cleared", () -> x.confirm(0));
        x.report(3, 1);
        Check.due("stopped there", CONFIRMED, () -> x.confirm(1));
        Check.state("confirmed", () -> x.confirm(1));
        Check.due("the first one", CLEARED, () -> x.incident(0, 2));
        Check.index("confirm(2)", () -> x.confirm(2));
    }

    private static void incidentAnswers() {
        RedcrossGantry x = new RedcrossGantry();
        Check.index("incident(0, 9) without one", () -> x.incident(0, 9));
        x.stop(7, 3);
        x.report(7, 3);
        Check.index("incident(-1, 0)", () -> x.incident(-1, 0));
        Check.index("incident(1, 0)", () -> x.incident(1, 0));
        Check.argument("incident(0, -1)", () -> x.incident(0, -1));
        Check.argument("incident(0, 4)", () -> x.incident(0, 4));
        Check.due("section", 7, () -> x.incident(0, 0));
        Check.due("lane", 3, () -> x.incident(0, 1));
        Check.due("suspected", SUSPECTED, () -> x.incident(0, 2));
        Check.due("no patrol", NONE, () -> x.incident(0, 3));
        x.confirm(0);
        Check.due("confirmed", CONFIRMED, () -> x.incident(0, 2));
        x.send(2, 0);
        Check.due("the patrol", 2, () -> x.incident(0, 3));
        x.pass(12);
        Check.due("cleared", CLEARED, () -> x.incident(0, 2));
        Check.due("no patrol more", NONE, () -> x.incident(0, 3));
    }

    private static void patterns() {
        RedcrossGantry x = new RedcrossGantry();
        int stuck = RedcrossGantry.STUCK;
        int dead = RedcrossGantry.DEAD;
        Check.due("at first", NONE, x::pattern);
        for (int section = 3; section < 12; section++) {
            x.detector(section, dead, 0);
        }
        x.detector(5, stuck, 39);
        x.detector(6, stuck, 80);
        Check.due("39 ahead of 80", 5, x::pattern);
        x.detector(5, stuck, 40);
        Check.due("40 ahead of 80", NONE, x::pattern);
        x.detector(5, stuck, 0);
        x.detector(6, stuck, 79);
        Check.due("0 ahead of 79", NONE, x::pattern);
        x.detector(6, dead, 0);
        Check.due("0 ahead of nothing believed", NONE, x::pattern);
        x.detector(11, stuck, 10);
        Check.due("the last one has none behind", NONE, x::pattern);
        x.detector(9, stuck, 10);
        x.detector(10, stuck, 90);
        Check.due("farther on", 9, x::pattern);
        x.detector(10, stuck, 10);
        x.detector(11, stuck, 90);
        Check.due("at the end", 10, x::pattern);
        x.detector(5, stuck, 0);
        x.detector(6, stuck, 120);
        Check.due("the lowest", 5, x::pattern);
        x.detector(5, dead, 0);
        Check.due("nothing believed counts for none", 10, x::pattern);
        x.detector(1, dead, 0);
        x.detector(2, dead, 0);
        x.detector(0, stuck, 10);
        Check.due("not at the begin", 10, x::pattern);
        x.detector(1, stuck, 80);
        Check.due("at the begin", 0, x::pattern);
    }

    private static void wayAnswers() {
        RedcrossGantry x = new RedcrossGantry();
        Check.index("way(-1, 0)", () -> x.way(-1, 0));
        Check.index("way(3, 0)", () -> x.way(3, 0));
        Check.index("way(0, -1)", () -> x.way(0, -1));
        Check.index("way(2, 12)", () -> x.way(2, 12));
        for (int section = 0; section < 12; section++) {
            int s = section;
            Check.due("way where the shoulder is shut", s, () -> x.way(2, s));
        }
        x.stop(5, 1);
        x.report(5, 1);
        x.confirm(0);
        x.send(0, 0);
        Check.due("way of one that is sent", 7, () -> x.way(0, 7));
        x.pass(10);
        Check.due("on", 2, () -> x.way(0, 7));
        Check.due("here", 0, () -> x.way(0, 5));
        Check.due("back", 3, () -> x.way(0, 4));
        Check.due("back to the begin", 15, () -> x.way(0, 0));
        Check.due("of another one", 7, () -> x.way(1, 7));
    }

    private static void waysThroughTheOpenShoulder() {
        int[] demands = {12, 15, 24, 30};
        int[] due = {1, 2, 2, 2};
        for (int i = 0; i < demands.length; i++) {
            RedcrossGantry x = new RedcrossGantry();
            x.demand(demands[i]);
            x.pass(1);
            x.demand(0);
            x.look(1);
            x.look(2);
            x.openShoulder(1, 2);
            x.pass(1);
            int way = due[i];
            Check.due("way with " + demands[i], way, () -> x.way(0, 1));
            Check.due("through an empty one and a shut one", way + 2, () -> x.way(0, 3));
            x.shutShoulder();
            x.order(1, 0, RedcrossGantry.OPEN);
            Check.due("way where it is shut, but told open", 1, () -> x.way(0, 1));
        }
        RedcrossGantry x = new RedcrossGantry();
        x.look(0);
        x.openShoulder(0, 0);
        x.demand(40);
        x.pass(1);
        Check.due("its own section counts for nothing", 0, () -> x.way(0, 0));
        Check.due("its own section counts for nothing", 1, () -> x.way(0, 1));
    }

    private static void wayThroughTheOpenEnd() {
        RedcrossGantry x = new RedcrossGantry();
        x.demand(24);
        x.pass(12);
        x.look(11);
        x.openShoulder(11, 11);
        Check.due("through the open end", 12, () -> x.way(0, 11));
        Check.due("up to the open end", 10, () -> x.way(0, 10));
    }

    private static void sendAnswers() {
        RedcrossGantry x = new RedcrossGantry();
        Check.index("send(0, 0) without one", () -> x.send(0, 0));
        x.stop(4, 2);
        x.report(4, 2);
        Check.index("send(-1, 0)", () -> x.send(-1, 0));
        Check.index("send(3, 0)", () -> x.send(3, 0));
        Check.index("send(0, -1)", () -> x.send(0, -1));
        Check.state("suspected", () -> x.send(0, 0));
        x.confirm(0);
        Check.due("confirmed", 9, () -> x.send(0, 0));
        Check.state("one is sent to it", () -> x.send(1, 0));
        x.stop(4, 3);
        x.report(4, 3);
        x.confirm(1);
        Check.state("it is not free", () -> x.send(0, 1));
        Check.index("it is not free, to none", () -> x.send(0, 2));
        x.report(6, 1);
        x.confirm(2);
        Check.state("cleared", () -> x.send(1, 2));
        Check.due("another one", 9, () -> x.send(1, 1));
    }

    private static void patrolAtWork() {
        RedcrossGantry x = new RedcrossGantry();
        Check.index("patrol(-1, 0)", () -> x.patrol(-1, 0));
        Check.index("patrol(3, 9)", () -> x.patrol(3, 9));
        Check.argument("patrol(0, -1)", () -> x.patrol(0, -1));
        Check.argument("patrol(0, 3)", () -> x.patrol(0, 3));
        Check.due("free at first", NONE, () -> x.patrol(2, 1));
        Check.due("nothing to do at first", 0, () -> x.patrol(2, 2));
        x.report(9, 0);
        x.stop(2, 1);
        x.report(2, 1);
        x.confirm(1);
        x.demand(3);
        x.pass(4);
        Check.due("sent", 7, () -> x.send(1, 1));
        Check.due("its incident", 1, () -> x.patrol(1, 1));
        x.pass(6);
        Check.due("where it was", 0, () -> x.patrol(1, 0));
        Check.due("the last minute", 1, () -> x.patrol(1, 2));
        Check.due("the cross", RedcrossGantry.CROSS, () -> x.sign(2, 1));
        Check.state("stopped still", () -> stop(x, 2, 1));
        Check.due("none in the crossed lane", 0, () -> x.holds(2, 1));
        x.pass(1);
        Check.due("where it is", 2, () -> x.patrol(1, 0));
        Check.due("free", NONE, () -> x.patrol(1, 1));
        Check.due("nothing to do", 0, () -> x.patrol(1, 2));
        Check.due("open in the same minute", RedcrossGantry.OPEN, () -> x.proof(11, 2, 2));
        Check.due("they come in the same minute", 1, () -> x.holds(2, 1));
        Check.due("the vehicle is none of those gone", x.vehicles(0) - x.vehicles(2) - x.vehicles(1),
                () -> x.vehicles(3));
        Check.due("stopped no more", 0, () -> stop(x, 2, 1));
        x.report(2, 1);
        x.confirm(2);
        Check.due("sent where it is", 5, () -> x.send(1, 2));
    }

    private static void theWayIsTakenAsItWas() {
        RedcrossGantry x = new RedcrossGantry();
        x.stop(6, 1);
        x.report(6, 1);
        x.confirm(0);
        x.demand(40);
        x.pass(3);
        for (int section = 1; section < 6; section++) {
            x.look(section);
        }
        Check.due("sent", 11, () -> x.send(0, 0));
        x.openShoulder(1, 5);
        x.pass(3);
        Check.due("minutes left", 8, () -> x.patrol(0, 2));
        Check.due("the way by now is longer", 1, () -> Check.bit(x.way(0, 6) > 6));
        x.pass(8);
        Check.due("cleared", CLEARED, () -> x.incident(0, 2));
    }

    private static void atTheCorners() {
        RedcrossGantry x = new RedcrossGantry();
        x.stop(0, 0);
        x.report(0, 0);
        Check.due("stopped at the begin", CONFIRMED, () -> x.confirm(0));
        x.stop(11, 3);
        x.report(11, 3);
        Check.due("stopped at the end", CONFIRMED, () -> x.confirm(1));
        Check.due("the cross at the end", RedcrossGantry.CROSS, () -> x.sign(11, 3));
        Check.due("sent to the begin", 5, () -> x.send(0, 0));
        Check.due("sent to the end", 16, () -> x.send(1, 1));
        x.pass(5);
        Check.due("free at the begin", NONE, () -> x.patrol(0, 1));
        Check.due("stopped no more at the begin", 0, () -> stop(x, 0, 0));
        x.pass(11);
        Check.due("at the end", 11, () -> x.patrol(1, 0));
        Check.due("stopped no more at the end", 0, () -> stop(x, 11, 3));
    }

    private static void twoPatrols() {
        RedcrossGantry x = new RedcrossGantry();
        for (int lane = 1; lane < 4; lane++) {
            x.stop(3, lane);
            x.report(3, lane);
            x.confirm(lane - 1);
            x.send(3 - lane, lane - 1);
        }
        x.pass(8);
        for (int i = 0; i < 3; i++) {
            int number = i;
            Check.due("cleared together", CLEARED, () -> x.incident(number, 2));
            Check.due("all are there", 3, () -> x.patrol(number, 0));
        }
    }
}
