/** Promises 1 to 6: a new object, demand, pass, holds, vehicles, section; and how vehicles go on. */
public final class TrafficTest {
    private static final int CROSS = RedcrossGantry.CROSS;
    private static final int LEAVE = RedcrossGantry.LEAVE;

    private TrafficTest() {
    }

    public static void main(String[] args) {
        newObject();
        demand();
        pass();
        wrongPlaces();
        eightGoOnAndAreGone();
        brokenAtFifteen();
        brokenUntilBelowEight();
        brokenNoMoreWithSeven();
        fullLaneGivesWayToTheLowerOne();
        leaveGoesLowerFirst();
        leaveGoesOwnLast();
        noneGoesPastTheLastLane();
        arrivalsWait();
        arrivalsIntoTheShoulder();
        theShoulderCountsToo();
        aCrossAtTheEndLetsThemGo();
        vehicles();
        section();
        Check.end();
    }

    private static void holds(RedcrossGantry x, int section, int... lanes) {
        for (int i = 0; i < 4; i++) {
            int lane = i;
            Check.due("holds(" + section + ", " + lane + ")", lanes[i], () -> x.holds(section, lane));
        }
    }

    private static void newObject() {
        RedcrossGantry x = new RedcrossGantry();
        for (int section = 0; section < 12; section++) {
            int s = section;
            holds(x, s, 0, 0, 0, 0);
            Check.due("speed at first", 120, () -> x.section(s, 0));
            Check.due("belief at first", 120, () -> x.section(s, 1));
            Check.due("guess at first", 120, () -> x.section(s, 2));
            Check.due("speed sign at first", 120, () -> x.section(s, 3));
            Check.due("broken at first", 0, () -> x.section(s, 4));
            Check.due("detector at first", RedcrossGantry.GOOD, () -> x.section(s, 5));
            Check.due("shoulder at first", CROSS, () -> x.sign(s, 0));
            Check.due("lane 1 at first", RedcrossGantry.OPEN, () -> x.sign(s, 1));
            Check.due("lane 3 at first", RedcrossGantry.OPEN, () -> x.sign(s, 3));
            Check.due("speed sign kept", 120, () -> x.proof(0, s, 0));
            Check.due("shoulder kept", CROSS, () -> x.proof(0, s, 1));
            Check.due("lane 2 kept", RedcrossGantry.OPEN, () -> x.proof(0, s, 3));
        }
        Check.due("weather at first", RedcrossGantry.CLEAR, () -> x.weather(RedcrossGantry.CLEAR));
        Check.due("demand at first", 0, () -> x.demand(0));
        Check.due("came at first", 0, () -> x.vehicles(0));
        Check.state("minute 1 at first", () -> x.proof(1, 0, 0));
        Check.due("first minute", 1, () -> x.pass(1));
    }

    private static void demand() {
        RedcrossGantry x = new RedcrossGantry();
        Check.argument("demand(-1)", () -> x.demand(-1));
        Check.argument("demand(41)", () -> x.demand(41));
        Check.due("demand(40)", 0, () -> x.demand(40));
        Check.argument("demand(MAX)", () -> x.demand(Integer.MAX_VALUE));
        Check.due("demand(3)", 40, () -> x.demand(3));
        Check.due("came before a minute", 0, () -> x.vehicles(0));
        x.pass(2);
        Check.due("came in two minutes", 6, () -> x.vehicles(0));
        Check.due("demand(0)", 3, () -> x.demand(0));
        x.pass(2);
        Check.due("came without demand", 6, () -> x.vehicles(0));
    }

    private static void pass() {
        RedcrossGantry x = new RedcrossGantry();
        Check.argument("pass(0)", () -> x.pass(0));
        Check.argument("pass(-1)", () -> x.pass(-1));
        Check.argument("pass(61)", () -> x.pass(61));
        Check.argument("pass(MAX)", () -> x.pass(Integer.MAX_VALUE));
        for (int i = 1; i <= 9; i++) {
            Check.due("pass(60)", 60 * i, () -> x.pass(60));
        }
        Check.due("pass(59)", 599, () -> x.pass(59));
        Check.state("pass(2) at 599", () -> x.pass(2));
        Check.due("pass(1) at 599", 600, () -> x.pass(1));
        Check.state("pass(1) at 600", () -> x.pass(1));
        Check.state("pass(60) at 600", () -> x.pass(60));
        Check.argument("pass(61) at 600", () -> x.pass(61));
    }

    private static void wrongPlaces() {
        RedcrossGantry x = new RedcrossGantry();
        Check.index("holds(-1, 0)", () -> x.holds(-1, 0));
        Check.index("holds(12, 0)", () -> x.holds(12, 0));
        Check.index("holds(0, -1)", () -> x.holds(0, -1));
        Check.index("holds(0, 4)", () -> x.holds(0, 4));
        Check.index("holds(MIN, MAX)", () -> x.holds(Integer.MIN_VALUE, Integer.MAX_VALUE));
    }

    private static void eightGoOnAndAreGone() {
        RedcrossGantry x = new RedcrossGantry();
        x.demand(30);
        x.pass(1);
        x.demand(0);
        holds(x, 0, 0, 10, 10, 10);
        x.pass(1);
        holds(x, 0, 0, 2, 2, 2);
        holds(x, 1, 0, 8, 8, 8);
        x.pass(10);
        holds(x, 11, 0, 8, 8, 8);
        holds(x, 10, 0, 2, 2, 2);
        Check.due("gone before the end", 0, () -> x.vehicles(3));
        x.pass(1);
        Check.due("gone", 24, () -> x.vehicles(3));
        x.pass(1);
        Check.due("all gone", 30, () -> x.vehicles(3));
        Check.due("none on the road", 0, () -> x.vehicles(1));
    }

    private static void brokenAtFifteen() {
        for (int demand = 14; demand <= 15; demand++) {
            RedcrossGantry x = new RedcrossGantry();
            for (int lane = 1; lane < 4; lane++) {
                x.stop(0, lane);
            }
            x.demand(demand);
            x.pass(3);
            holds(x, 0, 0, demand, demand, demand);
            int broken = demand == 15 ? 1 : 0;
            Check.due("broken with " + demand, broken, () -> x.section(0, 4));
            Check.due("the next one broken", 0, () -> x.section(1, 4));
        }
    }

    private static void brokenUntilBelowEight() {
        RedcrossGantry x = new RedcrossGantry();
        for (int lane = 1; lane < 4; lane++) {
            x.stop(1, lane);
        }
        x.demand(20);
        x.pass(3);
        x.demand(0);
        holds(x, 0, 0, 7, 7, 6);
        holds(x, 1, 0, 14, 14, 12);
        Check.due("not broken with 14", 0, () -> x.section(1, 4));
        x.pass(1);
        // Each lane's last ones find their own full, and go into the higher one.
        holds(x, 1, 0, 20, 20, 20);
        holds(x, 0, 0, 0, 0, 0);
        Check.due("broken with 20", 1, () -> x.section(1, 4));
        for (int lane = 1; lane < 4; lane++) {
            x.confirm(x.report(1, lane));
            x.send(lane - 1, lane - 1);
        }
        x.pass(5);
        holds(x, 1, 0, 20, 20, 20);
        x.pass(1);
        holds(x, 1, 0, 14, 14, 14);
        holds(x, 2, 0, 6, 6, 6);
        x.pass(1);
        holds(x, 1, 0, 8, 8, 8);
        Check.due("broken still with 8", 1, () -> x.section(1, 4));
        x.pass(1);
        holds(x, 1, 0, 2, 2, 2);
        Check.due("broken no more", 0, () -> x.section(1, 4));
    }

    private static void brokenNoMoreWithSeven() {
        RedcrossGantry x = new RedcrossGantry();
        x.demand(40);
        x.pass(2);
        x.demand(0);
        Check.due("broken with 19", 1, () -> x.section(0, 4));
        x.pass(1);
        holds(x, 0, 0, 13, 13, 12);
        Check.due("broken with 13", 1, () -> x.section(0, 4));
        x.pass(1);
        holds(x, 0, 0, 7, 7, 6);
        Check.due("broken no more with 7", 0, () -> x.section(0, 4));
        x.pass(1);
        holds(x, 0, 0, 0, 0, 0);
    }

    private static void fullLaneGivesWayToTheLowerOne() {
        RedcrossGantry x = new RedcrossGantry();
        x.stop(1, 2);
        x.demand(24);
        x.pass(3);
        holds(x, 1, 0, 8, 16, 8);
        holds(x, 2, 0, 8, 0, 8);
        Check.due("broken by the middle lane", 1, () -> x.section(1, 4));
        x.pass(1);
        holds(x, 1, 0, 14, 20, 10);
        holds(x, 2, 0, 6, 0, 6);
        holds(x, 3, 0, 8, 0, 8);
    }

    private static void leaveGoesLowerFirst() {
        RedcrossGantry x = new RedcrossGantry();
        x.order(2, 2, CROSS);
        x.demand(24);
        x.pass(3);
        holds(x, 2, 0, 16, 0, 8);
        x.demand(36);
        x.pass(1);
        // The section 2 was broken: 10 and 2 are left there. 8 come in lane 1; of the 8 that leave
        // the lane 2 the first 2 fill the lane 1, and 6 go into the lane 3, ahead of its own 8.
        holds(x, 2, 0, 20, 0, 16);
    }

    private static void leaveGoesOwnLast() {
        RedcrossGantry x = new RedcrossGantry();
        x.order(1, 2, LEAVE);
        x.order(2, 1, CROSS);
        x.order(2, 3, CROSS);
        x.demand(24);
        x.pass(3);
        holds(x, 2, 0, 0, 20, 0);
        holds(x, 1, 0, 8, 8, 12);
        RedcrossGantry y = new RedcrossGantry();
        y.order(1, 2, LEAVE);
        y.demand(24);
        y.pass(3);
        holds(y, 2, 0, 16, 0, 8);
    }

    private static void noneGoesPastTheLastLane() {
        RedcrossGantry x = new RedcrossGantry();
        x.order(1, 2, CROSS);
        x.order(1, 3, CROSS);
        x.order(2, 0, RedcrossGantry.OPEN);
        x.demand(9);
        x.pass(1);
        x.demand(0);
        x.pass(1);
        holds(x, 0, 0, 0, 0, 3);
        holds(x, 1, 0, 6, 0, 0);
        holds(x, 2, 0, 0, 0, 0);
    }

    private static void arrivalsWait() {
        RedcrossGantry x = new RedcrossGantry();
        x.demand(40);
        x.pass(1);
        holds(x, 0, 0, 14, 13, 13);
        x.pass(1);
        holds(x, 0, 0, 19, 19, 18);
        Check.due("none wait", 0, () -> x.vehicles(2));
        x.pass(1);
        holds(x, 0, 0, 20, 20, 20);
        holds(x, 1, 0, 6, 6, 6);
        Check.due("those that wait", 18, () -> x.vehicles(2));
        x.demand(0);
        x.pass(1);
        holds(x, 0, 0, 20, 20, 20);
        Check.due("they come without a demand", 0, () -> x.vehicles(2));
        Check.due("came", 120, () -> x.vehicles(0));
    }

    private static void arrivalsIntoTheShoulder() {
        RedcrossGantry x = new RedcrossGantry();
        x.look(0);
        x.openShoulder(0, 0);
        Check.due("the open shoulder is to be left", LEAVE, () -> x.sign(0, 0));
        x.demand(6);
        x.pass(1);
        holds(x, 0, 2, 2, 1, 1);
        x.demand(0);
        x.pass(1);
        holds(x, 0, 0, 0, 0, 0);
        holds(x, 1, 0, 4, 1, 1);
        RedcrossGantry y = new RedcrossGantry();
        y.order(0, 0, RedcrossGantry.OPEN);
        y.order(1, 0, RedcrossGantry.OPEN);
        y.demand(4);
        y.pass(2);
        holds(y, 1, 1, 1, 1, 1);
        y.demand(0);
        y.order(1, 0, RedcrossGantry.NONE);
        y.pass(1);
        // The one in the shut shoulder finds it crossed ahead, and leaves it.
        holds(y, 2, 0, 2, 1, 1);
    }

    private static void theShoulderCountsToo() {
        RedcrossGantry x = new RedcrossGantry();
        x.stop(0, 0);
        x.order(0, 0, RedcrossGantry.OPEN);
        x.order(1, 0, RedcrossGantry.OPEN);
        x.demand(4);
        x.pass(2);
        holds(x, 0, 2, 1, 1, 1);
        holds(x, 1, 0, 1, 1, 1);
        Check.due("on the road", 8, () -> x.vehicles(1));
        Check.due("the most is in the shoulder", 110, () -> x.section(0, 0));
        x.demand(8);
        x.pass(1);
        holds(x, 0, 3, 3, 2, 2);
        holds(x, 1, 0, 1, 1, 1);
    }

    private static void aCrossAtTheEndLetsThemGo() {
        RedcrossGantry x = new RedcrossGantry();
        x.demand(24);
        x.pass(12);
        holds(x, 11, 0, 8, 8, 8);
        x.order(11, 2, CROSS);
        x.pass(1);
        Check.due("gone past the cross", 24, () -> x.vehicles(3));
        holds(x, 11, 0, 16, 0, 8);
    }

    private static void vehicles() {
        RedcrossGantry x = new RedcrossGantry();
        Check.argument("vehicles(-1)", () -> x.vehicles(-1));
        Check.argument("vehicles(4)", () -> x.vehicles(4));
        x.stop(3, 1);
        x.demand(40);
        for (int i = 1; i <= 10; i++) {
            x.pass(5);
            int came = 200 * i;
            Check.due("came", came, () -> x.vehicles(0));
            Check.due("came, one by one", came, () -> x.vehicles(1) + x.vehicles(2) + x.vehicles(3));
        }
    }

    private static void section() {
        RedcrossGantry x = new RedcrossGantry();
        Check.index("section(-1, 0)", () -> x.section(-1, 0));
        Check.index("section(12, 9)", () -> x.section(12, 9));
        Check.argument("section(0, -1)", () -> x.section(0, -1));
        Check.argument("section(11, 6)", () -> x.section(11, 6));
        x.demand(40);
        x.pass(1);
        Check.due("speed with 14", 50, () -> x.section(0, 0));
        Check.due("belief", 50, () -> x.section(0, 1));
        Check.due("guess from behind alone", 120, () -> x.section(0, 2));
        Check.due("guess of the next", 85, () -> x.section(1, 2));
        Check.due("speed sign", 60, () -> x.section(0, 3));
        x.pass(2);
        Check.due("speed with 20", 20, () -> x.section(0, 0));
        Check.due("broken", 1, () -> x.section(0, 4));
        x.detector(0, RedcrossGantry.DEAD, 0);
        Check.due("detector", RedcrossGantry.DEAD, () -> x.section(0, 5));
    }
}
