/** The sentences on stopped vehicles and on the shoulder that name a boundary, each in a test of its own. */
public final class ShoulderSentencesTest {
    private static final int OPEN = RedcrossGantry.OPEN;
    private static final int LEAVE = RedcrossGantry.LEAVE;
    private static final int CROSS = RedcrossGantry.CROSS;
    private static final String STOPPED = "A vehicle can be STOPPED in a LANE at a SECTION, also in the SHOULDER where it is "
            + "shut, one at most; it is none of those that the SECTION HOLDS.";
    private static final String LOOK = "To look over the SHOULDER at a SECTION tells whether it is clear: none is STOPPED, and "
            + "it HOLDS none there.";
    private static final String CAN_OPEN = "It can be opened from a SECTION to another one, also where it is open, if at each of "
            + "these the latest look was less than 5 minutes ago, and found it clear, and no vehicle was STOPPED in the "
            + "SHOULDER there since.";
    private static final String SHUT = "It is shut everywhere by a call, and as a vehicle is STOPPED in it, at whichever SECTION.";

    private ShoulderSentencesTest() {
    }

    public static void main(String[] args) {
        oneStoppedAtMost();
        stoppedAgainWhenGone();
        noneOfThoseHeld();
        aFullLaneHoldsTwentyBesides();
        clearIfNoneIsStopped();
        clearIfItHoldsNone();
        onlyTheShoulderIsLookedOver();
        oneStoppedThere();
        withoutALook();
        lessThanFiveMinutesAgo();
        theLatestLookCounts();
        aLookThatFoundOneStopped();
        aLookThatFoundOneHeld();
        heldSinceTheLook();
        stoppedSinceTheLook();
        stoppedElsewhereSinceTheLook();
        atEachOfThese();
        noneOpenedIfNotAll();
        fromOneEndToTheOther();
        alsoWhereItIsOpen();
        atHowManyItWasShut();
        shutByACall();
        shutByAStopAtWhicheverSection();
        notShutByOtherStops();
        openedOnceMore();
        Check.end();
    }

    private static Road looked(Road x) {
        for (int section = 0; section < 12; section++) {
            x.due(1, "look", section);
        }
        return x;
    }

    private static void oneStoppedAtMost() {
        Check.says(STOPPED);
        Road x = new Road();
        for (int lane = 0; lane < 4; lane++) {
            x.does("stop", 0, lane).does("stop", 11, lane).state("stop", 0, lane).state("stop", 11, lane);
        }
        x.does("stop", 1, 0).does("stop", 10, 3).does("pass", 60).state("stop", 1, 0).state("stop", 11, 3);
    }

    private static void stoppedAgainWhenGone() {
        Check.says(STOPPED);
        Road x = new Road();
        for (int time = 0; time < 3; time++) {
            x.confirmed(time, 4, 0).state("stop", 4, 0).does("send", time, time).does("pass", 9);
            x.due(RedcrossGantry.CLEARED, "incident", time, 2);
        }
    }

    private static void noneOfThoseHeld() {
        Check.says(STOPPED);
        Road x = new Road().does("stop", 3, 2).does("stop", 3, 0).holds(3, 0, 0, 0, 0).due(0, "vehicles", 1);
        x.due(0, "vehicles", 0).due(0, "vehicles", 2).due(120, "section", 3, 0).confirmed(0, 3, 1).does("send", 0, 0);
        x.does("pass", 8).state("stop", 3, 0).does("stop", 3, 1).due(0, "vehicles", 3).due(0, "vehicles", 0);
    }

    private static void aFullLaneHoldsTwentyBesides() {
        Check.says(STOPPED);
        Road x = new Road().blocked(0).does("demand", 40).does("pass", 2).holds(0, 0, 20, 20, 20).state("stop", 0, 1);
        Road y = new Road().does("demand", 40).does("pass", 3).holds(0, 0, 20, 20, 20).does("stop", 0, 1);
        y.holds(0, 0, 20, 20, 20);
    }

    private static void clearIfNoneIsStopped() {
        Check.says(LOOK);
        Road x = new Road().due(1, "look", 0).due(1, "look", 11).does("stop", 0, 0).does("stop", 11, 0);
        x.due(0, "look", 0).due(0, "look", 11).due(1, "look", 1).due(1, "look", 10);
    }

    private static void clearIfItHoldsNone() {
        Check.says(LOOK);
        Road x = new Road().due(1, "look", 0).does("openShoulder", 0, 0).does("demand", 1).does("pass", 1);
        x.holds(0, 1, 0, 0, 0).due(0, "look", 0).does("demand", 0).does("pass", 1).holds(0, 0, 0, 0, 0).due(1, "look", 0);
        Road y = new Road().does("order", 11, 0, OPEN).does("order", 11, 1, CROSS).does("demand", 1).does("pass", 12);
        y.holds(11, 1, 0, 0, 0).due(0, "look", 11).due(1, "look", 10);
    }

    private static void onlyTheShoulderIsLookedOver() {
        Check.says(LOOK);
        Road x = new Road().blocked(4).due(1, "look", 4).does("demand", 40).does("pass", 9).due(1, "look", 4).due(1, "look", 0);
    }

    private static void oneStoppedThere() {
        Check.says("Throws `IllegalStateException` if one is STOPPED there");
        Road x = looked(new Road()).does("openShoulder", 0, 3).does("stop", 2, 0).does("openShoulder", 3, 3);
        x.state("stop", 2, 0).does("stop", 2, 1).state("stop", 2, 1).does("stop", 1, 1).does("stop", 2, 2).does("stop", 2, 3);
        x.state("stop", 2, 3).due(1, "shutShoulder");
    }

    private static void withoutALook() {
        Check.says(CAN_OPEN);
        Road x = new Road().state("openShoulder", 0, 0).state("openShoulder", 11, 11).state("openShoulder", 0, 11);
        x.does("pass", 4).state("openShoulder", 0, 0).does("pass", 1).state("openShoulder", 0, 0);
    }

    private static void lessThanFiveMinutesAgo() {
        Check.says(CAN_OPEN);
        looked(new Road()).due(1, "openShoulder", 0, 0).due(11, "openShoulder", 0, 11);
        looked(new Road()).does("pass", 4).due(12, "openShoulder", 0, 11);
        looked(new Road()).does("pass", 5).state("openShoulder", 0, 0).state("openShoulder", 11, 11);
        looked(new Road().does("pass", 7)).does("pass", 4).due(1, "openShoulder", 5, 5).does("pass", 1)
                .state("openShoulder", 6, 6);
        looked(new Road()).does("pass", 60).state("openShoulder", 6, 6);
    }

    private static void theLatestLookCounts() {
        Check.says(CAN_OPEN);
        Road x = new Road().due(1, "look", 3).does("pass", 4).due(1, "look", 3).does("pass", 4).due(1, "openShoulder", 3, 3);
        x.does("pass", 1).state("openShoulder", 3, 3).due(1, "look", 3).due(0, "openShoulder", 3, 3);
        Road y = new Road().does("look", 0).does("openShoulder", 0, 0).does("demand", 1).does("pass", 1).due(0, "look", 0);
        y.state("openShoulder", 0, 0).does("demand", 0).does("pass", 1).due(1, "look", 0).due(0, "openShoulder", 0, 0);
    }

    private static void aLookThatFoundOneStopped() {
        Check.says(CAN_OPEN);
        Road x = new Road().confirmed(0, 1, 0).does("send", 0, 0).does("pass", 5).due(0, "look", 1);
        x.state("openShoulder", 1, 1).does("pass", 1).state("openShoulder", 1, 1).due(1, "look", 1);
        x.due(1, "openShoulder", 1, 1);
    }

    private static void aLookThatFoundOneHeld() {
        Check.says(CAN_OPEN);
        Road x = new Road().does("look", 0).does("openShoulder", 0, 0).does("demand", 1).does("pass", 1).due(0, "look", 0);
        x.does("demand", 0).does("pass", 1).holds(0, 0, 0, 0, 0).state("openShoulder", 0, 0);
        x.does("shutShoulder").state("openShoulder", 0, 0);
    }

    private static void heldSinceTheLook() {
        Check.says(CAN_OPEN);
        Road x = new Road().does("look", 0).does("openShoulder", 0, 0).does("demand", 1).does("pass", 1);
        x.holds(0, 1, 0, 0, 0).does("shutShoulder").due(1, "openShoulder", 0, 0);
    }

    private static void stoppedSinceTheLook() {
        Check.says(CAN_OPEN);
        Road x = new Road().does("look", 1).confirmed(0, 1, 0).state("openShoulder", 1, 1).state("openShoulder", 1, 2);
        Road y = new Road().does("stop", 0, 0).does("report", 0, 0).does("confirm", 0).does("pass", 1);
        y.does("send", 0, 0).does("pass", 5).due(1, "look", 0).due(1, "openShoulder", 0, 0).does("stop", 0, 0);
        y.state("openShoulder", 0, 0);
    }

    private static void stoppedElsewhereSinceTheLook() {
        Check.says(CAN_OPEN);
        Road x = looked(new Road()).does("stop", 4, 1).does("stop", 6, 0).due(4, "openShoulder", 2, 5);
        x.state("openShoulder", 5, 6).due(1, "openShoulder", 7, 7).state("openShoulder", 6, 6);
        Road y = looked(new Road()).blocked(3).due(12, "openShoulder", 0, 11);
    }

    private static void atEachOfThese() {
        Check.says(CAN_OPEN);
        for (int missing = 2; missing <= 5; missing++) {
            Road x = new Road();
            for (int section = 2; section <= 5; section++) {
                if (section != missing) {
                    x.does("look", section);
                }
            }
            x.state("openShoulder", 2, 5).due(CROSS, "sign", 2, 0).due(CROSS, "sign", 5, 0).does("look", missing);
            x.due(4, "openShoulder", 2, 5);
        }
        Road y = new Road().does("look", 2).does("pass", 1).does("look", 3).does("pass", 4).state("openShoulder", 2, 3);
        y.due(1, "openShoulder", 3, 3);
    }

    private static void noneOpenedIfNotAll() {
        Check.says("Throws `IllegalStateException` if it cannot be opened, as told");
        Road x = new Road().does("look", 5).does("look", 7).state("openShoulder", 5, 6).state("openShoulder", 6, 7);
        x.state("openShoulder", 5, 7).state("openShoulder", 6, 6).due(0, "shutShoulder").due(1, "openShoulder", 5, 5);
        Check.says("Throws `IllegalArgumentException` if to is ahead of from");
        x.argument("openShoulder", 7, 5).argument("openShoulder", 6, 5).due(0, "openShoulder", 5, 5);
        Check.says("Throws `IndexOutOfBoundsException` as told, of both");
        x.index("openShoulder", 5, 12).index("openShoulder", -1, 5).index("openShoulder", 12, 5).index("openShoulder", 5, -1);
    }

    private static void fromOneEndToTheOther() {
        Check.says(CAN_OPEN);
        looked(new Road()).due(12, "openShoulder", 0, 11).due(12, "shutShoulder");
        looked(new Road()).due(1, "openShoulder", 0, 0).due(1, "openShoulder", 11, 11).laneSigns(0, 10, CROSS, OPEN)
                .laneSigns(0, 0, LEAVE, CROSS);
        looked(new Road()).due(3, "openShoulder", 4, 6).laneSigns(0, 3, CROSS, OPEN, OPEN, LEAVE, CROSS);
    }

    private static void alsoWhereItIsOpen() {
        Check.says(CAN_OPEN);
        Road x = looked(new Road()).due(1, "openShoulder", 4, 4).due(0, "openShoulder", 4, 4);
        x.due(2, "openShoulder", 3, 5).due(0, "openShoulder", 3, 5).does("pass", 5).state("openShoulder", 4, 4);
        x.laneSigns(0, 2, CROSS, OPEN, OPEN, LEAVE, CROSS);
    }

    private static void atHowManyItWasShut() {
        Check.says("Returns at how many of these it was shut.");
        Road x = looked(new Road()).due(1, "openShoulder", 2, 2).due(1, "openShoulder", 4, 4).due(3, "openShoulder", 1, 5);
        x.due(0, "openShoulder", 1, 5).does("order", 8, 0, OPEN).due(1, "openShoulder", 8, 8).due(6, "openShoulder", 0, 11);
    }

    private static void shutByACall() {
        Check.says("Shuts the SHOULDER everywhere; returns at how many SECTIONS it was open.");
        Road x = looked(new Road()).due(0, "shutShoulder").does("openShoulder", 0, 0).does("openShoulder", 5, 6);
        x.does("openShoulder", 11, 11).due(4, "shutShoulder").due(0, "shutShoulder");
        x.laneSigns(0, 0, CROSS, CROSS).laneSigns(0, 5, CROSS, CROSS).laneSigns(0, 10, CROSS, CROSS);
        x.due(12, "openShoulder", 0, 11).due(12, "shutShoulder");
    }

    private static void shutByAStopAtWhicheverSection() {
        Check.says(SHUT);
        for (int section = 0; section < 12; section++) {
            Road x = looked(new Road()).does("openShoulder", 0, 5).does("stop", section, 0).due(0, "shutShoulder");
            x.due(CROSS, "sign", 0, 0).due(CROSS, "sign", 5, 0);
        }
    }

    private static void notShutByOtherStops() {
        Check.says(SHUT);
        Road x = new Road().does("stop", 9, 0).does("look", 4).does("look", 5).does("openShoulder", 4, 5);
        x.does("stop", 5, 1).does("stop", 0, 3).does("stop", 4, 2).state("stop", 9, 0).state("stop", 5, 1);
        x.laneSigns(0, 3, CROSS, OPEN, LEAVE, CROSS).due(2, "shutShoulder");
    }

    private static void openedOnceMore() {
        Check.says(SHUT);
        Road x = looked(new Road()).does("openShoulder", 0, 11);
        x.does("stop", 9, 0).due(9, "openShoulder", 0, 8).state("openShoulder", 9, 9).due(2, "openShoulder", 10, 11);
        x.due(11, "shutShoulder").does("pass", 4).due(2, "openShoulder", 10, 11).does("pass", 1);
        x.state("openShoulder", 10, 11).due(2, "shutShoulder");
    }
}
