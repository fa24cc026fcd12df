/**
 * The range of each argument of each call: what is the least and the greatest is taken, what lies one beyond
 * it on each side is refused, on a new road and on a busy one, and a call that is refused changes nothing.
 */
public final class RangesTest {
    private static final int STUCK = RedcrossGantry.STUCK;
    private static final int NONE = RedcrossGantry.NONE;

    private RangesTest() {
    }

    public static void main(String[] args) {
        theBusyRoad();
        for (int at = 0; at < 2; at++) {
            boolean busy = at == 1;
            trafficAndMinutes(busy);
            detectorsAndWeather(busy);
            limits(busy);
            laneSigns(busy);
            shoulder(busy);
            places(busy);
            patrols(busy);
            worksOfAPlace(busy);
            worksOfATime(busy);
            proofs(busy);
        }
        incidentsAndWorksThatThereAre();
        incidentsAndWorksThatThereAreNot();
        tellingChangesNothing();
        Check.end();
    }

    private static Road road(boolean busy) {
        return busy ? Scenes.busy() : new Road();
    }

    private static void theBusyRoad() {
        Road x = Scenes.busy();
        x.due(1, "incident", 0, 2).due(1, "incident", 0, 3).due(0, "incident", 1, 2).due(2, "incident", 2, 2);
        x.due(1, "incident", 3, 2).due(NONE, "incident", 3, 3).due(0, "patrol", 1, 1).due(NONE, "patrol", 0, 1);
        x.due(1, "isOn", 0).due(0, "isOn", 1).due(0, "isOn", 2).due(0, "sign", 2, 0).due(1, "sign", 3, 0);
        x.due(40, "section", 4, 3).due(60, "section", 3, 3).due(80, "section", 5, 3).due(STUCK, "section", 2, 5);
        x.due(67, "pass", 1).due(40, "section", 4, 3).due(68, "pass", 1).due(80, "section", 4, 3);
    }

    private static int[] with(int[] all, int at, int number) {
        int[] changed = all.clone();
        changed[at] = number;
        return changed;
    }

    /** One argument, the others as they are given: its ends are taken, and beyond each of them another is not. */
    private static void range(boolean busy, String kind, int at, int least, int greatest, String name, int... others) {
        road(busy).does(name, with(others, at, least));
        road(busy).does(name, with(others, at, greatest));
        Road x = road(busy);
        int[] beyond = {least - 1, greatest + 1, Integer.MIN_VALUE, Integer.MAX_VALUE};
        for (int number : beyond) {
            if (kind.equals("index")) {
                x.index(name, with(others, at, number));
            } else {
                x.argument(name, with(others, at, number));
            }
        }
    }

    private static void index(boolean busy, int at, int least, int greatest, String name, int... others) {
        range(busy, "index", at, least, greatest, name, others);
    }

    private static void argument(boolean busy, int at, int least, int greatest, String name, int... others) {
        range(busy, "argument", at, least, greatest, name, others);
    }

    private static void trafficAndMinutes(boolean busy) {
        Check.says("`vehicles`: 0 to 40");
        argument(busy, 0, 0, 40, "demand", 1);
        Check.says("`minutes`: 1 to 60");
        argument(busy, 0, 1, 60, "pass", 1);
        Check.says("Returns how many vehicles a SECTION HOLDS in a LANE.");
        index(busy, 0, 0, 11, "holds", 0, 2);
        index(busy, 1, 0, 3, "holds", 5, 0);
        Check.says("Tells of vehicles: 0 those that came, 1 those on the road, 2 those that wait, 3 those that are GONE");
        argument(busy, 0, 0, 3, "vehicles", 0);
        Check.says("Tells of a SECTION: 0 its SPEED, 1 its BELIEF, 2 its GUESS, NONE without one, 3 its SPEED SIGN, "
                + "4 whether it is BROKEN, 1 or 0, 5 what its detector is, GOOD to DEAD");
        index(busy, 0, 0, 11, "section", 0, 5);
        argument(busy, 1, 0, 5, "section", 11, 0);
    }

    private static void detectorsAndWeather(boolean busy) {
        Check.says("Tells a detector that it is GOOD, STUCK at a number, or DEAD.");
        index(busy, 0, 0, 11, "detector", 0, STUCK, 5);
        Check.says("`is`: GOOD to DEAD");
        argument(busy, 1, RedcrossGantry.GOOD, RedcrossGantry.DEAD, "detector", 3, 0, 60);
        Check.says("`number`: 0 to 120; counts for nothing but with STUCK, whatever it is");
        argument(busy, 2, 0, 120, "detector", 11, STUCK, 0);
        int[] whatever = {Integer.MIN_VALUE, -1, 0, 120, 121, Integer.MAX_VALUE};
        for (int number : whatever) {
            road(busy).does("detector", 0, RedcrossGantry.GOOD, number).due(0, "section", 0, 5);
            road(busy).does("detector", 0, RedcrossGantry.DEAD, number).due(2, "section", 0, 5);
        }
        Check.says("`weather`: CLEAR to ICE");
        argument(busy, 0, RedcrossGantry.CLEAR, RedcrossGantry.ICE, "weather", 0);
    }

    private static void limits(boolean busy) {
        Check.says("`limit`: 40, 60, 80, 100 or 120; NONE to take it back");
        index(busy, 0, 0, 11, "limit", 0, 60);
        int before = NONE;
        Road x = road(busy);
        for (int limit = 40; limit <= 120; limit += 20) {
            x.due(before, "limit", 9, limit);
            before = limit;
        }
        x.due(120, "limit", 9, NONE).due(NONE, "limit", 9, NONE);
        int[] wrong = {Integer.MIN_VALUE, -2, 0, 1, 20, 39, 41, 59, 61, 70, 79, 81, 99, 101, 119, 121, 140,
            Integer.MAX_VALUE};
        Road y = road(busy).does("limit", 10, 100);
        for (int limit : wrong) {
            y.argument("limit", 10, limit);
        }
        y.due(100, "limit", 10, NONE);
    }

    private static void laneSigns(boolean busy) {
        Check.says("`sign`: OPEN to CROSS; NONE to take it back");
        index(busy, 0, 0, 11, "order", 0, 3, RedcrossGantry.LEAVE);
        index(busy, 1, 0, 3, "order", 11, 0, RedcrossGantry.CROSS);
        argument(busy, 2, NONE, RedcrossGantry.CROSS, "order", 1, 0, 0);
        argument(busy, 2, NONE, RedcrossGantry.CROSS, "order", 11, 3, 0);
        Check.says("Returns the LANE SIGN as it is now.");
        index(busy, 0, 0, 11, "sign", 0, 0);
        index(busy, 1, 0, 3, "sign", 11, 0);
    }

    private static void shoulder(boolean busy) {
        Check.says("Looks over the SHOULDER at a SECTION.");
        index(busy, 0, 0, 11, "look", 0);
        Check.says("Opens the SHOULDER from a SECTION to another one.");
        Road x = road(busy);
        int[] beyond = {-1, 12, Integer.MIN_VALUE, Integer.MAX_VALUE};
        for (int section : beyond) {
            x.index("openShoulder", section, 3).index("openShoulder", 3, section);
            x.index("openShoulder", section, section);
        }
        Check.says("`to`: the same one or one farther on");
        x.does("look", 5).does("look", 6).argument("openShoulder", 6, 5).does("openShoulder", 5, 5);
        x.does("openShoulder", 5, 6);
        x.argument("openShoulder", 11, 0).argument("openShoulder", 11, 10).argument("openShoulder", 1, 0);
    }

    private static void places(boolean busy) {
        Check.says("Lets a vehicle be STOPPED.");
        index(busy, 0, 0, 11, "stop", 0, 3);
        index(busy, 1, 0, 3, "stop", 6, 0);
        Check.says("Reports an INCIDENT, whether a vehicle is STOPPED there or not.");
        index(busy, 0, 0, 11, "report", 0, 0);
        index(busy, 1, 0, 3, "report", 6, 0);
    }

    private static void patrols(boolean busy) {
        Check.says("Returns the WAY of a PATROL to a SECTION by now, whether it is free or not.");
        index(busy, 0, 0, 2, "way", 0, 11);
        index(busy, 1, 0, 11, "way", 1, 0);
        Check.says("Tells of a PATROL: 0 the SECTION where it is, or was when it was sent, 1 the INCIDENT to which it is "
                + "sent, NONE if it is free, 2 the minutes until that is CLEARED, 0 if it is free");
        index(busy, 0, 0, 2, "patrol", 0, 2);
        argument(busy, 1, 0, 2, "patrol", 1, 0);
    }

    private static void worksOfAPlace(boolean busy) {
        Check.says("`lane`: 1 to 3");
        index(busy, 0, 1, 3, "works", 0, 3, 4, 100, 200);
        Check.says("`from`: a SECTION, not the SECTION 0");
        index(busy, 1, 1, 11, "works", 2, 0, 11, 100, 200);
        Check.says("IndexOutOfBoundsException` if there is no such LANE or SECTION, also for the LANE 0, or the SECTION 0");
        index(busy, 2, 1, 11, "works", 2, 1, 0, 100, 200);
        Check.says("`to`: the same one or one farther on");
        Road x = road(busy);
        x.argument("works", 2, 6, 5, 100, 200).argument("works", 2, 11, 1, 100, 200);
        x.does("works", 2, 6, 6, 100, 200).does("works", 2, 6, 7, 100, 200);
    }

    private static void worksOfATime(boolean busy) {
        int now = road(busy).now();
        Check.says("`begin`: the minute of now, to 599");
        argument(busy, 3, now, 599, "works", 3, 1, 2, 0, 600);
        Check.says("`end`: above begin, to 600");
        argument(busy, 4, 301, 600, "works", 3, 1, 2, 300, 0);
        argument(busy, 4, 600, 600, "works", 3, 1, 2, 599, 0);
        argument(busy, 4, now + 1, 600, "works", 3, 1, 2, now, 0);
        road(busy).argument("works", 1, 1, 2, Integer.MIN_VALUE, Integer.MAX_VALUE)
                .argument("works", 1, 1, 2, Integer.MAX_VALUE, Integer.MIN_VALUE);
    }

    private static void proofs(boolean busy) {
        int now = road(busy).now();
        Check.says("Tells what was shown at a SECTION in a minute, as it is kept: 0 the SPEED SIGN, 1 to 4 the LANE SIGNS "
                + "of the LANES 0 to 3");
        index(busy, 1, 0, 11, "proof", now, 0, 4);
        argument(busy, 2, 0, 4, "proof", now, 11, 0);
        Check.says("`speed`: 0 to 250");
        index(busy, 1, 0, 11, "isFined", now, 0, 100);
        argument(busy, 2, 0, 250, "isFined", now, 11, 0);
        Check.says("IllegalArgumentException` as told, or if minute is below 0");
        road(busy).argument("proof", -1, 0, 0).argument("proof", Integer.MIN_VALUE, 11, 4)
                .argument("isFined", -1, 0, 0).argument("isFined", Integer.MIN_VALUE, 11, 250);
    }

    private static void incidentsAndWorksThatThereAre() {
        Check.says("IndexOutOfBoundsException: there is no such SECTION, LANE, INCIDENT, PATROL or WORKS.");
        index(true, 0, 0, 3, "incident", 0, 3);
        argument(true, 1, 0, 3, "incident", 2, 0);
        index(true, 0, 0, 2, "isOn", 0);
        Scenes.busy().index("confirm", -1).index("confirm", 4).due(RedcrossGantry.CLEARED, "confirm", 1);
        Scenes.busy().index("confirm", Integer.MIN_VALUE).index("confirm", Integer.MAX_VALUE);
        index(true, 0, 0, 2, "send", 0, 3);
        Scenes.busy().index("send", 0, -1).index("send", 0, 4).does("send", 0, 3);
        Scenes.busy().index("send", 2, Integer.MIN_VALUE).index("send", 2, Integer.MAX_VALUE);
    }

    private static void incidentsAndWorksThatThereAreNot() {
        Check.says("IndexOutOfBoundsException: there is no such SECTION, LANE, INCIDENT, PATROL or WORKS.");
        Road x = new Road();
        int[] numbers = {-1, 0, 1, 11, 12, Integer.MIN_VALUE, Integer.MAX_VALUE};
        for (int number : numbers) {
            x.index("confirm", number).index("incident", number, 0).index("send", 0, number).index("isOn", number);
        }
    }

    private static void tellingChangesNothing() {
        Check.says("");
        Road x = Scenes.busy();
        int now = x.now();
        for (int section = 0; section < 12; section += 5) {
            x.changesNothing("holds", section, 1).changesNothing("sign", section, 2).changesNothing("way", 1, section);
            x.changesNothing("proof", now - 1, section, 3).changesNothing("isFined", now, section, 99);
            for (int what = 0; what < 6; what++) {
                x.changesNothing("section", section, what);
            }
        }
        for (int what = 0; what < 4; what++) {
            x.changesNothing("vehicles", what).changesNothing("incident", 0, what);
        }
        x.changesNothing("patrol", 1, 0).changesNothing("patrol", 1, 1).changesNothing("patrol", 1, 2);
        x.changesNothing("isLawful").changesNothing("pattern").changesNothing("isOn", 0).changesNothing("isOn", 2);
    }
}
