/**
 * One method for each promise, by its number: its chapter is quoted whole, and each of its sentences is asked
 * for with ordinary numbers, at its edges and with wrong ones. What "Terms" says has tests of its own.
 */
public final class PromisesTest {
    private static final int NONE = RedcrossGantry.NONE;
    private static final int OPEN = RedcrossGantry.OPEN;
    private static final int LEAVE = RedcrossGantry.LEAVE;
    private static final int CROSS = RedcrossGantry.CROSS;
    private static final int GOOD = RedcrossGantry.GOOD;
    private static final int STUCK = RedcrossGantry.STUCK;
    private static final int DEAD = RedcrossGantry.DEAD;
    private static final int CLEAR = RedcrossGantry.CLEAR;
    private static final int FOG = RedcrossGantry.FOG;
    private static final int ICE = RedcrossGantry.ICE;
    private static final int SUSPECTED = RedcrossGantry.SUSPECTED;
    private static final int CONFIRMED = RedcrossGantry.CONFIRMED;
    private static final int CLEARED = RedcrossGantry.CLEARED;
    private static final int MIN = Integer.MIN_VALUE;
    private static final int MAX = Integer.MAX_VALUE;
    private static final String INDEX = "Throws `IndexOutOfBoundsException` as told";
    private static final String ARGUMENT = "Throws `IllegalArgumentException` as told";
    private static final String BELOW_ZERO = "Throws `IllegalArgumentException` as told, or if minute is below 0";
    private static final String NOT_KEPT = "Throws `IllegalStateException` if that minute is not kept";

    private PromisesTest() {
    }

    public static void main(String[] args) {
        promise1();
        promise2();
        promise3();
        promise4();
        promise5();
        promise6();
        promise7();
        promise8();
        promise9();
        promise10();
        promise11();
        promise12();
        promise13();
        promise14();
        promise15();
        promise16();
        promise17();
        promise18();
        promise19();
        promise20();
        promise21();
        promise22();
        promise23();
        promise24();
        promise25();
        promise26();
        promise27();
        Check.end();
    }

    private static void promise1() {
        Check.promise(1, "Begins in the minute 0, with an empty road and clear weather.");
        new Road().does("demand", 40).does("weather", ICE).does("pass", 9);
        // A second one has a road of its own.
        Road x = new Road().due(0, "vehicles", 0).due(0, "vehicles", 1).due(0, "vehicles", 2).due(0, "vehicles", 3);
        x.holds(0, 0, 0, 0, 0).holds(6, 0, 0, 0, 0).holds(11, 0, 0, 0, 0).state("proof", 1, 0, 0);
        x.due(CLEAR, "weather", CLEAR).due(0, "demand", 0).due(1, "pass", 1).due(120, "section", 11, 3);
    }

    private static void promise2() {
        Check.promise(2, "Tells the demand, of each minute from now on.", "`vehicles`: 0 to 40", "Returns what it was.", ARGUMENT);
        Road x = new Road().due(0, "demand", 40).due(40, "demand", 7).due(0, "vehicles", 0).does("pass", 3);
        x.due(21, "vehicles", 0).due(7, "demand", 0).does("pass", 2).due(21, "vehicles", 0).due(0, "demand", 40);
        x.argument("demand", -1).argument("demand", 41).argument("demand", MIN).argument("demand", MAX);
        x.does("pass", 1).due(61, "vehicles", 0).due(40, "demand", 40);
    }

    private static void promise3() {
        Check.promise(3, "Lets minutes go by.", "`minutes`: 1 to 60", "Returns the minute.", ARGUMENT,
                "Throws `IllegalStateException` if it would be above 600");
        Road x = new Road().due(0, "demand", 1).due(1, "pass", 1).due(1, "vehicles", 0).due(61, "pass", 60);
        x.due(61, "vehicles", 0).argument("pass", 0).argument("pass", 61).argument("pass", -1).argument("pass", MIN);
        x.argument("pass", MAX);
        for (int minute = 121; minute < 600; minute += 60) {
            x.due(minute, "pass", 60);
        }
        x.state("pass", 60).due(570, "pass", 29).state("pass", 31).due(600, "pass", 30).state("pass", 1).argument("pass", 0);
        x.due(600, "vehicles", 0);
    }

    private static void promise4() {
        Check.promise(4, "Returns how many vehicles a SECTION HOLDS in a LANE.", INDEX);
        Road x = new Road().does("demand", 11).does("pass", 1).does("demand", 0).holds(0, 0, 4, 4, 3).holds(1, 0, 0, 0, 0);
        x.does("pass", 1).holds(0, 0, 0, 0, 0).holds(1, 0, 4, 4, 3).does("pass", 10).holds(11, 0, 4, 4, 3);
        x.index("holds", -1, 0).index("holds", 12, 0).index("holds", 0, -1).index("holds", 11, 4).index("holds", MIN, MAX);
    }

    private static void promise5() {
        Check.promise(5, "Tells of vehicles: 0 those that came, 1 those on the road, 2 those that wait, 3 those that are GONE",
                "`what`: 0 to 3", ARGUMENT);
        Road x = new Road().blocked(0).does("demand", 40).does("pass", 2);
        x.due(80, "vehicles", 0).due(60, "vehicles", 1).due(20, "vehicles", 2).due(0, "vehicles", 3);
        Road y = new Road().does("demand", 5).does("pass", 1).does("demand", 0).does("pass", 11).due(5, "vehicles", 1);
        y.does("pass", 1).due(5, "vehicles", 0).due(0, "vehicles", 1).due(0, "vehicles", 2).due(5, "vehicles", 3);
        y.argument("vehicles", -1).argument("vehicles", 4).argument("vehicles", MIN).argument("vehicles", MAX);
    }

    private static void promise6() {
        Check.promise(6, "Tells of a SECTION: 0 its SPEED, 1 its BELIEF, 2 its GUESS, NONE without one, 3 its SPEED SIGN, "
                + "4 whether it is BROKEN, 1 or 0, 5 what its detector is, GOOD to DEAD", "`what`: 0 to 5", INDEX, ARGUMENT);
        Road x = new Road().blocked(0).does("demand", 40).does("pass", 2).does("detector", 0, STUCK, 100);
        x.due(20, "section", 0, 0).due(100, "section", 0, 1).due(120, "section", 0, 2).due(40, "section", 0, 3);
        x.due(1, "section", 0, 4).due(STUCK, "section", 0, 5).due(120, "section", 1, 0).due(120, "section", 1, 1);
        x.due(120, "section", 1, 2).due(120, "section", 1, 3).due(0, "section", 1, 4).due(GOOD, "section", 1, 5);
        x.does("detector", 1, DEAD, 0).due(DEAD, "section", 1, 5).due(NONE, "section", 0, 2).does("detector", 0, GOOD, 0);
        x.due(70, "section", 1, 1).due(70, "section", 1, 2).due(GOOD, "section", 11, 5);
        x.index("section", -1, 0).index("section", 12, 5).index("section", MAX, MIN);
        x.argument("section", 0, -1).argument("section", 11, 6).argument("section", 0, MIN).argument("section", 0, MAX);
    }

    private static void promise7() {
        Check.promise(7, "Tells a detector that it is GOOD, STUCK at a number, or DEAD.", "`is`: GOOD to DEAD",
                "`number`: 0 to 120; counts for nothing but with STUCK, whatever it is", "Returns what it was.", INDEX, ARGUMENT);
        Road x = new Road().due(GOOD, "detector", 10, DEAD, MIN).due(GOOD, "detector", 11, STUCK, 0).due(0, "section", 11, 1);
        x.due(STUCK, "detector", 11, STUCK, 120).due(120, "section", 11, 1).due(STUCK, "detector", 11, DEAD, 121);
        x.due(NONE, "section", 11, 1).due(DEAD, "detector", 11, GOOD, MAX).due(120, "section", 11, 1);
        x.due(DEAD, "detector", 10, GOOD, -1).due(GOOD, "detector", 10, GOOD, 7);
        x.index("detector", -1, GOOD, 0).index("detector", 12, STUCK, 50).argument("detector", 0, -1, 0);
        x.argument("detector", 0, 3, 0).argument("detector", 0, MAX, 0).argument("detector", 0, STUCK, -1);
        x.argument("detector", 11, STUCK, 121).argument("detector", 11, STUCK, MIN).due(GOOD, "section", 11, 5);
    }

    private static void promise8() {
        Check.promise(8, "Tells the weather; the SPEED SIGNS are set anew with the next minute.", "`weather`: CLEAR to ICE",
                "Returns what it was.", ARGUMENT);
        Road x = new Road().due(CLEAR, "weather", ICE).due(120, "section", 11, 3).due(ICE, "weather", FOG);
        x.due(120, "section", 0, 3).does("pass", 1).due(60, "section", 11, 3).due(60, "section", 0, 3);
        x.argument("weather", -1).argument("weather", 4).argument("weather", MIN).argument("weather", MAX);
        x.due(FOG, "weather", ICE).due(60, "section", 11, 3).does("pass", 1).due(40, "section", 11, 3);
        x.due(ICE, "weather", CLEAR).due(CLEAR, "weather", CLEAR);
    }

    private static void promise9() {
        Check.promise(9, "Orders a limit by hand, or takes it back; the SPEED SIGNS are set anew with the next minute.",
                "`limit`: 40, 60, 80, 100 or 120; NONE to take it back", "Returns the limit that was ordered; NONE without one.",
                INDEX, ARGUMENT);
        Road x = new Road().due(NONE, "limit", 11, 60).due(120, "section", 11, 3).does("pass", 1).lastSpeedSigns(80, 60);
        x.due(60, "limit", 11, 100).due(60, "section", 11, 3).does("pass", 1).due(100, "section", 11, 3);
        x.due(100, "limit", 11, NONE).due(NONE, "limit", 11, NONE).does("pass", 1).due(100, "section", 11, 3);
        x.does("pass", 1).due(120, "section", 11, 3).due(NONE, "limit", 0, 40).due(40, "limit", 0, 80);
        x.due(80, "limit", 0, 120).due(120, "limit", 0, NONE);
        x.index("limit", -1, 60).index("limit", 12, NONE).argument("limit", 0, 0).argument("limit", 0, 20);
        x.argument("limit", 0, 50).argument("limit", 0, 140).argument("limit", 0, -2).argument("limit", 11, MAX);
    }

    private static void promise10() {
        Check.promise(10, "Orders a LANE SIGN by hand, or takes the order back.", "`sign`: OPEN to CROSS; NONE to take it back",
                "Returns the order before; NONE without one.", INDEX, ARGUMENT,
                "Throws `IllegalStateException` if it is CROSS at the SECTION 0");
        Road x = new Road().due(NONE, "order", 5, 2, CROSS).due(CROSS, "sign", 5, 2).due(CROSS, "order", 5, 2, LEAVE);
        x.due(LEAVE, "sign", 5, 2).due(LEAVE, "order", 5, 2, OPEN).due(OPEN, "sign", 5, 2).due(OPEN, "order", 5, 2, NONE);
        x.due(NONE, "order", 5, 2, NONE).due(NONE, "order", 5, 0, OPEN).due(OPEN, "order", 5, 0, NONE);
        x.due(CROSS, "sign", 5, 0).due(NONE, "order", 0, 1, LEAVE).due(LEAVE, "sign", 0, 1).due(NONE, "order", 1, 1, CROSS);
        x.state("order", 0, 0, CROSS).state("order", 0, 1, CROSS).state("order", 0, 3, CROSS).due(LEAVE, "order", 0, 1, OPEN);
        x.index("order", -1, 0, OPEN).index("order", 12, 0, OPEN).index("order", 0, -1, OPEN).index("order", 0, 4, OPEN);
        x.argument("order", 5, 2, -2).argument("order", 5, 2, 3).argument("order", 0, 0, MAX).argument("order", 0, 0, MIN);
    }

    private static void promise11() {
        Check.promise(11, "Returns the LANE SIGN as it is now.", INDEX);
        Road x = new Road().laneSigns(0, 0, CROSS, CROSS).laneSigns(1, 0, OPEN, OPEN).does("order", 7, 3, CROSS);
        x.laneSigns(3, 5, OPEN, LEAVE, CROSS, OPEN).does("works", 1, 4, 4, 1, 2).laneSigns(1, 3, OPEN, OPEN, OPEN);
        x.does("pass", 1).laneSigns(1, 3, LEAVE, CROSS, OPEN).does("pass", 1).laneSigns(1, 3, OPEN, OPEN, OPEN);
        x.index("sign", -1, 0).index("sign", 12, 3).index("sign", 0, -1).index("sign", 11, 4).index("sign", MAX, MIN);
    }

    private static void promise12() {
        Check.promise(12, "Tells whether all signs are lawful: each SPEED SIGN at most 20 above the next one, each LANE SIGN of a "
                + "SECTION ahead of a CROSS other than OPEN; found anew; always so.");
        Road x = new Road().due(1, "isLawful").does("limit", 11, 40).does("limit", 10, 120).does("limit", 0, 120);
        x.does("limit", 1, 40).does("order", 6, 2, CROSS).does("order", 5, 2, OPEN).due(1, "isLawful").does("pass", 1);
        x.due(1, "isLawful").due(60, "section", 10, 3).due(60, "section", 0, 3).due(LEAVE, "sign", 5, 2);
        x.does("limit", 11, 100).due(1, "isLawful").does("pass", 1).due(1, "isLawful").does("look", 3).does("look", 4);
        x.does("openShoulder", 3, 4).due(1, "isLawful").does("stop", 9, 0).due(1, "isLawful").confirmed(0, 8, 1);
        x.due(1, "isLawful").does("works", 3, 2, 9, 2, 4).due(1, "isLawful").does("pass", 60).due(1, "isLawful");
    }

    private static void promise13() {
        Check.promise(13, "Looks over the SHOULDER at a SECTION.", "Returns whether it is clear.", INDEX);
        Road x = new Road().due(1, "look", 0).due(1, "look", 11).does("stop", 4, 0).does("stop", 5, 1);
        x.due(0, "look", 4).due(1, "look", 5).does("order", 0, 0, OPEN).does("demand", 1).does("pass", 1).due(0, "look", 0);
        x.does("demand", 0).does("pass", 1).due(1, "look", 0).does("openShoulder", 0, 0).state("openShoulder", 4, 4);
        x.index("look", -1).index("look", 12).index("look", MIN).index("look", MAX);
    }

    private static void promise14() {
        Check.promise(14, "Opens the SHOULDER from a SECTION to another one.", "`from`: a SECTION",
                "`to`: the same one or one farther on", "Returns at how many of these it was shut.", INDEX + ", of both",
                "Throws `IllegalArgumentException` if to is ahead of from",
                "Throws `IllegalStateException` if it cannot be opened, as told");
        Road x = new Road().does("look", 3).does("look", 4).state("openShoulder", 3, 5).does("look", 5);
        x.due(1, "openShoulder", 4, 4).due(2, "openShoulder", 3, 5).due(0, "openShoulder", 3, 5);
        x.laneSigns(0, 2, CROSS, OPEN, OPEN, LEAVE, CROSS).argument("openShoulder", 4, 3).argument("openShoulder", 11, 0);
        x.index("openShoulder", -1, 4).index("openShoulder", 12, 4).index("openShoulder", 4, -1).index("openShoulder", 4, 12);
        x.does("pass", 4).due(0, "openShoulder", 3, 5).does("pass", 1).state("openShoulder", 4, 4).due(3, "shutShoulder");
        x.does("look", 0).due(1, "openShoulder", 0, 0).does("look", 11).due(1, "openShoulder", 11, 11);
    }

    private static void promise15() {
        Check.promise(15, "Shuts the SHOULDER everywhere; returns at how many SECTIONS it was open.");
        Road x = new Road().due(0, "shutShoulder").does("look", 0).does("look", 6).does("look", 7).does("look", 11);
        x.does("openShoulder", 0, 0).does("openShoulder", 6, 7).does("openShoulder", 11, 11).due(4, "shutShoulder");
        x.laneSigns(0, 6, CROSS, CROSS).due(CROSS, "sign", 0, 0).due(CROSS, "sign", 11, 0).due(0, "shutShoulder");
        x.does("order", 5, 0, OPEN).due(0, "shutShoulder").due(OPEN, "order", 5, 0, NONE).due(2, "openShoulder", 6, 7);
    }

    private static void promise16() {
        Check.promise(16, "Lets a vehicle be STOPPED.", INDEX, "Throws `IllegalStateException` if one is STOPPED there");
        Road x = new Road().does("demand", 3).does("pass", 1).does("stop", 0, 2).does("demand", 0).does("pass", 1);
        x.holds(0, 0, 0, 1, 0).holds(1, 0, 1, 0, 1).state("stop", 0, 2).does("stop", 0, 1).does("stop", 1, 2);
        x.does("stop", 0, 0).state("stop", 0, 0).does("stop", 11, 3).state("stop", 11, 3);
        x.index("stop", -1, 0).index("stop", 12, 0).index("stop", 0, -1).index("stop", 0, 4).index("stop", MIN, MAX);
    }

    private static void promise17() {
        Check.promise(17, "Reports an INCIDENT, whether a vehicle is STOPPED there or not.", "Returns its number.", INDEX,
                "Throws `IllegalStateException` if there is one there that is not CLEARED, there are 12, or it is at the "
                + "SECTION 0 in a LANE from 1 on");
        Road x = new Road().does("stop", 4, 1).due(0, "report", 4, 1).due(1, "report", 4, 2).due(2, "report", 0, 0);
        x.state("report", 4, 1).state("report", 4, 2).state("report", 0, 0).state("report", 0, 1).state("report", 0, 3);
        x.does("confirm", 0).state("report", 4, 1).does("send", 0, 0).does("pass", 9).due(3, "report", 4, 1);
        x.due(CLEARED, "confirm", 1).due(4, "report", 4, 2);
        x.index("report", -1, 0).index("report", 12, 0).index("report", 0, -1).index("report", 4, 4);
        for (int number = 5; number < 12; number++) {
            x.due(number, "report", number, 3);
        }
        x.state("report", 1, 1).due(CLEARED, "confirm", 11).state("report", 1, 1);
    }

    private static void promise18() {
        Check.promise(18, "Looks at an INCIDENT.", "Returns CONFIRMED or CLEARED, as it is then.", INDEX,
                "Throws `IllegalStateException` if it is not SUSPECTED");
        Road x = new Road().index("confirm", 0).does("stop", 4, 1).does("report", 4, 1).does("report", 4, 2);
        x.due(CONFIRMED, "confirm", 0).due(CONFIRMED, "incident", 0, 2).due(SUSPECTED, "incident", 1, 2);
        x.due(CLEARED, "confirm", 1).due(CLEARED, "incident", 1, 2).state("confirm", 0).state("confirm", 1);
        x.index("confirm", 2).index("confirm", -1).index("confirm", MIN).index("confirm", MAX);
    }

    private static void promise19() {
        Check.promise(19, "Tells of an INCIDENT: 0 its SECTION, 1 its LANE, 2 how it is, SUSPECTED to CLEARED, 3 the PATROL that is "
                + "sent to it, NONE without one, or if it is CLEARED", "`what`: 0 to 3", INDEX, ARGUMENT);
        Road x = new Road().index("incident", 0, 0).does("report", 3, 0).confirmed(1, 11, 2).does("send", 2, 1);
        x.due(3, "incident", 0, 0).due(0, "incident", 0, 1).due(SUSPECTED, "incident", 0, 2).due(NONE, "incident", 0, 3);
        x.due(11, "incident", 1, 0).due(2, "incident", 1, 1).due(CONFIRMED, "incident", 1, 2).due(2, "incident", 1, 3);
        x.does("pass", 16).due(11, "incident", 1, 0).due(2, "incident", 1, 1).due(CLEARED, "incident", 1, 2);
        x.due(NONE, "incident", 1, 3).index("incident", -1, 0).index("incident", 2, 0).index("incident", MAX, 0);
        x.argument("incident", 0, -1).argument("incident", 1, 4).argument("incident", 0, MIN).argument("incident", 0, MAX);
    }

    private static void promise20() {
        Check.promise(20, "Returns the PATTERN; NONE without one.");
        Road x = new Road().due(NONE, "pattern").blocked(2).does("demand", 40).does("pass", 10).due(20, "section", 2, 1);
        x.due(2, "pattern").does("detector", 2, STUCK, 50).due(50, "section", 2, 1).due(NONE, "pattern");
        // Stuck at 39 it is not believed, as the guess is 31 away from it.
        x.does("detector", 2, STUCK, 39).due(70, "section", 2, 2).due(70, "section", 2, 1).due(NONE, "pattern");
        x.does("detector", 3, DEAD, 0).due(20, "section", 2, 2).due(39, "section", 2, 1).due(120, "section", 3, 1);
        x.due(2, "pattern").does("detector", 4, DEAD, 0).due(NONE, "section", 3, 1).due(NONE, "pattern");
        x.does("detector", 3, STUCK, 79).due(79, "section", 3, 1).due(NONE, "pattern");
        x.does("detector", 3, STUCK, 80).due(80, "section", 3, 1).due(2, "pattern");
    }

    private static void promise21() {
        Check.promise(21, "Returns the WAY of a PATROL to a SECTION by now, whether it is free or not.", "Returns the minutes.",
                INDEX);
        Road x = new Road().due(0, "way", 0, 0).due(11, "way", 2, 11).confirmed(0, 5, 1).does("send", 0, 0);
        x.due(8, "way", 0, 8).does("pass", 10).due(3, "way", 0, 8).due(0, "way", 0, 5).due(15, "way", 0, 0);
        x.does("order", 1, 1, CROSS).does("order", 1, 2, CROSS).does("demand", 10).does("pass", 2).does("look", 1);
        x.holds(1, 0, 0, 0, 6).due(1, "way", 1, 1).does("openShoulder", 1, 1).due(2, "way", 1, 1).due(12, "way", 0, 1);
        x.index("way", -1, 0).index("way", 3, 0).index("way", 0, -1).index("way", 2, 12).index("way", MIN, MAX);
    }

    private static void promise22() {
        Check.promise(22, "Sends a PATROL to an INCIDENT.", "Returns in how many minutes it will be CLEARED.", INDEX,
                "Throws `IllegalStateException` if the PATROL is not free, the INCIDENT is not CONFIRMED, or one is sent to it");
        Road x = new Road().index("send", 0, 0).confirmed(0, 4, 1).confirmed(1, 2, 2).does("report", 6, 3);
        x.due(9, "send", 0, 0).state("send", 0, 1).state("send", 1, 0).state("send", 1, 2).due(7, "send", 2, 1);
        x.index("send", -1, 0).index("send", 3, 0).index("send", 1, -1).index("send", 1, 3).index("send", MAX, MIN);
        x.does("pass", 7).due(CLEARED, "incident", 1, 2).due(CONFIRMED, "incident", 0, 2).state("send", 1, 1);
        x.does("pass", 2).due(CLEARED, "incident", 0, 2).confirmed(3, 1, 1).due(14, "send", 0, 3);
    }

    private static void promise23() {
        Check.promise(23, "Tells of a PATROL: 0 the SECTION where it is, or was when it was sent, 1 the INCIDENT to which it is "
                + "sent, NONE if it is free, 2 the minutes until that is CLEARED, 0 if it is free", "`what`: 0 to 2", INDEX, ARGUMENT);
        Road x = new Road().due(0, "patrol", 0, 0).due(NONE, "patrol", 1, 1).due(0, "patrol", 2, 2).does("report", 9, 1);
        x.confirmed(1, 6, 1).does("send", 1, 1).due(0, "patrol", 1, 0).due(1, "patrol", 1, 1).due(11, "patrol", 1, 2);
        x.does("pass", 10).due(0, "patrol", 1, 0).due(1, "patrol", 1, 1).due(1, "patrol", 1, 2).does("pass", 1);
        x.due(6, "patrol", 1, 0).due(NONE, "patrol", 1, 1).due(0, "patrol", 1, 2).due(0, "patrol", 0, 0);
        x.index("patrol", -1, 0).index("patrol", 3, 0).index("patrol", MIN, 0).argument("patrol", 0, -1);
        x.argument("patrol", 2, 3).argument("patrol", 1, MIN).argument("patrol", 1, MAX);
    }

    private static void promise24() {
        Check.promise(24, "Books WORKS.", "`lane`: 1 to 3", "`from`: a SECTION, not the SECTION 0",
                "`to`: the same one or one farther on", "`begin`: the minute of now, to 599", "`end`: above begin, to 600",
                "Returns their number.",
                "Throws `IndexOutOfBoundsException` if there is no such LANE or SECTION, also for the LANE 0, or the SECTION 0",
                "Throws `IllegalArgumentException` if to is ahead of from, or begin or end is out of range",
                "Throws `IllegalStateException` if there are 8, or they cannot be booked");
        Road x = new Road().does("pass", 3).due(0, "works", 1, 1, 11, 3, 600).due(1, "works", 2, 4, 4, 5, 6);
        x.state("works", 3, 4, 5, 3, 600).state("works", 3, 4, 4, 5, 6).due(2, "works", 3, 4, 4, 6, 7).laneSigns(1, 0, LEAVE, CROSS);
        x.index("works", 0, 4, 4, 3, 9).index("works", 4, 4, 4, 3, 9).index("works", 1, 0, 4, 3, 9).index("works", 1, 12, 12, 3, 9);
        x.index("works", 1, 4, 12, 3, 9).index("works", 1, -1, 4, 3, 9).index("works", 1, 4, 0, 3, 9).index("works", 1, 4, -1, 3, 9);
        x.argument("works", 1, 4, 3, 3, 9).argument("works", 1, 4, 4, 2, 9).argument("works", 1, 4, 4, 600, 601);
        x.argument("works", 1, 4, 4, 9, 9).argument("works", 1, 4, 4, 9, 601).argument("works", 1, 4, 4, MIN, MAX);
        for (int number = 3; number < 8; number++) {
            x.due(number, "works", 1, 4, 4, 599, 600);
        }
        x.state("works", 1, 4, 4, 599, 600).argument("works", 1, 4, 4, 2, 600).index("works", 0, 4, 4, 599, 600);
    }

    private static void promise25() {
        Check.promise(25, "Tells whether WORKS are on now.", INDEX);
        Road x = new Road().index("isOn", 0).does("works", 1, 2, 3, 0, 1).does("works", 2, 2, 3, 1, 3);
        x.due(1, "isOn", 0).due(0, "isOn", 1).does("pass", 1).due(0, "isOn", 0).due(1, "isOn", 1).does("pass", 1);
        x.due(1, "isOn", 1).does("order", 2, 2, OPEN).due(1, "isOn", 1).does("pass", 1).due(0, "isOn", 1);
        x.index("isOn", -1).index("isOn", 2).index("isOn", 8).index("isOn", MIN).index("isOn", MAX);
    }

    private static void promise26() {
        Check.promise(26, "Tells what was shown at a SECTION in a minute, as it is kept: 0 the SPEED SIGN, 1 to 4 the LANE SIGNS of "
                + "the LANES 0 to 3", "`what`: 0 to 4", INDEX, BELOW_ZERO, NOT_KEPT);
        Road x = new Road().does("limit", 5, 60).does("order", 5, 1, CROSS).does("order", 5, 2, LEAVE).does("order", 6, 3, CROSS);
        x.due(120, "proof", 0, 5, 0).due(OPEN, "proof", 0, 5, 2).does("pass", 1).due(60, "proof", 1, 5, 0);
        x.due(CROSS, "proof", 1, 5, 1).due(CROSS, "proof", 1, 5, 2).due(LEAVE, "proof", 1, 5, 3).due(LEAVE, "proof", 1, 5, 4);
        x.does("order", 5, 2, NONE).due(LEAVE, "proof", 1, 5, 3).due(OPEN, "sign", 5, 2).due(120, "proof", 1, 11, 0);
        x.index("proof", 1, -1, 0).index("proof", 1, 12, 0).argument("proof", -1, 0, 0).argument("proof", MIN, 0, 0);
        x.argument("proof", 1, 0, -1).argument("proof", 1, 0, 5).state("proof", 2, 0, 0).state("proof", MAX, 0, 0);
        x.does("pass", 58).due(120, "proof", 0, 5, 0).does("pass", 1).state("proof", 0, 5, 0).due(60, "proof", 1, 5, 0);
    }

    private static void promise27() {
        Check.promise(27, "Tells whether a vehicle of a speed at a SECTION in a minute is fined: it is 10 or more above the SPEED "
                + "SIGN that was shown.", "`speed`: 0 to 250", INDEX, BELOW_ZERO, NOT_KEPT);
        Road x = new Road().due(0, "isFined", 0, 5, 129).due(1, "isFined", 0, 5, 130).does("limit", 5, 40).does("pass", 1);
        x.due(0, "isFined", 1, 5, 49).due(1, "isFined", 1, 5, 50).due(0, "isFined", 1, 5, 0).due(1, "isFined", 1, 5, 250);
        x.due(0, "isFined", 0, 5, 50).due(0, "isFined", 1, 4, 69).due(1, "isFined", 1, 4, 70);
        x.index("isFined", 1, -1, 50).index("isFined", 1, 12, 50).argument("isFined", -1, 5, 50).argument("isFined", MIN, 5, 50);
        x.argument("isFined", 1, 5, -1).argument("isFined", 1, 5, 251).argument("isFined", 1, 5, MAX).state("isFined", 2, 5, 50);
        x.does("pass", 58).due(1, "isFined", 0, 5, 130).does("pass", 1).state("isFined", 0, 5, 130).state("isFined", MAX, 5, 0);
    }
}
