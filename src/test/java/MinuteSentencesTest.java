/** The sentences of the chapter "A minute" that name a boundary, each in a test of its own. */
public final class MinuteSentencesTest {
    private static final int OPEN = RedcrossGantry.OPEN;
    private static final int LEAVE = RedcrossGantry.LEAVE;
    private static final int CROSS = RedcrossGantry.CROSS;
    private static final String GO_ON = "Of each LANE of a SECTION at most 8 go on, at most 6 if the SECTION is BROKEN, "
            + "none if a vehicle is STOPPED there; one by one, until one cannot go.";
    private static final String LANES = "Otherwise one goes to the next SECTION, to the first of these LANES that lets it in: "
            + "its own, the one with a lower number, the one with a higher number, where its LANE SIGN is OPEN; the one with "
            + "a lower number, the one with a higher number, its own, where that is LEAVE or CROSS.";
    private static final String LETS_IN = "A LANE lets it in, if there is such a one, its LANE SIGN at the next SECTION is not "
            + "CROSS, and the next SECTION HOLDS less than 20 in it then.";
    private static final String DEMAND = "Then the demand arrives: so many vehicles, 0 to 40, 0 at first, come and wait, "
            + "behind those that wait already;";
    private static final String COME = "one by one, those that wait come into the LANE of the SECTION 0 in which it HOLDS the "
            + "fewest, of several the lowest, of those whose LANE SIGN there is not CROSS, and in which it HOLDS less than 20; "
            + "without one all that are left wait.";
    private static final String BROKEN = "Then a SECTION is BROKEN, if it HOLDS 15 or more in some LANE; one that was BROKEN "
            + "stays so until it HOLDS less than 8 in each LANE.";

    private MinuteSentencesTest() {
    }

    public static void main(String[] args) {
        onTheRoadInEachPlace();
        itsNumberIsOneMore();
        manyMinutesAreLikeOneByOne();
        worksComeOnAndGoOffByIt();
        patrolsGoOnAheadOfTheVehicles();
        byTheSignsAsTheyAreThen();
        theLastSectionGoesFirst();
        theLaneZeroGoesFirst();
        atMostEight();
        atMostSixIfBroken();
        noneIfOneIsStopped();
        goneFromTheLastSection();
        openGoesItsOwnWayFirst();
        openGoesLowerNext();
        openGoesHigherAtLast();
        openAtTheEdges();
        leaveGoesLowerFirst();
        leaveGoesHigherNext();
        leaveGoesItsOwnWayAtLast();
        leaveAtTheEdges();
        crossGoesAsLeave();
        aCrossLetsNoneIn();
        aLeaveLetsThemIn();
        theTwentiethIsLetIn();
        theDemand();
        demandOfEachMinute();
        theFewestAndTheLowest();
        noneComesIntoACross();
        theOpenShoulderTakesThemToo();
        allThatAreLeftWait();
        theyComeAsSoonAsThereIsRoom();
        brokenByFourteenOrFifteen();
        brokenByTheShoulder();
        brokenUntilLessThanEight();
        brokenByTheShoulderUntilLessThanEight();
        brokenOnceMore();
        signsAreSetAtTheEndOfIt();
        Check.end();
    }

    private static void onTheRoadInEachPlace() {
        Check.says("Tells of vehicles: 0 those that came, 1 those on the road, 2 those that wait, 3 those that are GONE");
        Road x = new Road();
        for (int section = 0; section < 12; section++) {
            x.does("order", section, 0, OPEN);
        }
        x.does("demand", 4).does("pass", 1).does("demand", 0);
        for (int section = 0; section < 12; section++) {
            x.holds(section, 1, 1, 1, 1).due(4, "vehicles", 1).due(0, "vehicles", 3).does("pass", 1);
        }
        x.due(0, "vehicles", 1).due(4, "vehicles", 3).due(4, "vehicles", 0).due(0, "vehicles", 2);
    }

    private static void itsNumberIsOneMore() {
        Check.says("As a minute comes, its number is 1 more");
        new Road().due(1, "pass", 1).due(2, "pass", 1).due(62, "pass", 60).due(65, "pass", 3);
    }

    private static void manyMinutesAreLikeOneByOne() {
        Check.says("Lets minutes go by.");
        Road x = Scenes.busy().does("pass", 60);
        Road y = Scenes.busy();
        for (int minute = 0; minute < 60; minute++) {
            y.does("pass", 1);
        }
        x.likeThat(y);
    }

    private static void worksComeOnAndGoOffByIt() {
        Check.says("works come on and go off by it, and patrols go on, as told below");
        Road x = new Road().does("demand", 3).does("works", 2, 1, 1, 2, 3).does("pass", 1).holds(0, 0, 1, 1, 1);
        x.does("pass", 1).holds(1, 0, 2, 0, 1).does("pass", 1).holds(1, 0, 1, 1, 1).holds(2, 0, 2, 0, 1);
        Road y = new Road().does("demand", 3).does("pass", 1).does("works", 2, 1, 1, 1, 2).due(CROSS, "sign", 1, 2);
        y.does("pass", 1).holds(1, 0, 1, 1, 1);
    }

    private static void patrolsGoOnAheadOfTheVehicles() {
        Check.says("works come on and go off by it, and patrols go on, as told below");
        Road x = new Road().does("demand", 3).does("pass", 2).holds(1, 0, 1, 1, 1).confirmed(0, 1, 2);
        x.due(6, "send", 0, 0).does("pass", 5).holds(1, 0, 2, 1, 1).holds(2, 0, 2, 0, 1);
        x.does("pass", 1).holds(1, 0, 1, 1, 1).holds(2, 0, 2, 1, 1);
    }

    private static void byTheSignsAsTheyAreThen() {
        Check.says("Then vehicles go on, by the LANE SIGNS as they are then");
        Road x = new Road().does("demand", 3).does("pass", 2).does("order", 1, 2, CROSS).does("order", 1, 2, RedcrossGantry.NONE);
        x.does("pass", 1).holds(1, 0, 1, 1, 1).does("order", 1, 2, CROSS).holds(1, 0, 1, 1, 1).does("pass", 1);
        x.holds(1, 0, 2, 0, 1).does("order", 1, 2, OPEN).does("pass", 1).holds(1, 0, 1, 1, 1);
    }

    private static void theLastSectionGoesFirst() {
        Check.says("of the SECTION 11 first, then of the one ahead of it, and so on");
        Road x = new Road().blocked(2).does("demand", 40).does("pass", 20);
        for (int lane = 1; lane < 4; lane++) {
            x.does("report", 2, lane).does("confirm", lane - 1).due(7, "send", lane - 1, lane - 1);
        }
        x.does("pass", 6).holds(0, 0, 20, 20, 20).holds(1, 0, 20, 20, 20).holds(2, 0, 20, 20, 20);
        x.holds(3, 0, 0, 0, 0).does("pass", 1);
        x.holds(0, 0, 20, 20, 20).holds(1, 0, 20, 20, 20).holds(2, 0, 20, 20, 20).holds(3, 0, 6, 6, 6).holds(4, 0, 0, 0, 0);
    }

    private static void theLaneZeroGoesFirst() {
        Check.says("of a SECTION of the LANE 0 first, then 1, 2, 3");
        Road x = new Road().does("demand", 24).does("pass", 1).does("demand", 0);
        x.does("order", 1, 1, CROSS).does("order", 1, 3, CROSS).does("pass", 1);
        x.holds(0, 0, 0, 0, 4).holds(1, 0, 0, 20, 0);
        Road y = new Road().does("order", 0, 0, OPEN).does("demand", 32).does("pass", 1).holds(0, 8, 8, 8, 8);
        y.does("demand", 0).does("order", 1, 2, CROSS).does("order", 1, 3, CROSS).does("pass", 1);
        y.holds(0, 0, 0, 4, 8).holds(1, 0, 20, 0, 0);
    }

    private static void atMostEight() {
        Check.says(GO_ON);
        new Road().does("demand", 24).does("pass", 1).does("demand", 0).does("pass", 1).holds(0, 0, 0, 0, 0);
        new Road().does("demand", 27).does("pass", 1).does("demand", 0).does("pass", 1).holds(0, 0, 1, 1, 1)
                .holds(1, 0, 8, 8, 8);
        Road x = new Road().does("demand", 40).does("pass", 1).holds(0, 0, 14, 13, 13).does("demand", 0);
        x.due(0, "section", 0, 4).does("pass", 1).holds(0, 0, 6, 5, 5).holds(1, 0, 8, 8, 8);
        Road y = new Road().does("order", 11, 1, CROSS).does("demand", 15).does("pass", 12).holds(11, 0, 0, 10, 5);
        y.does("pass", 1).due(13, "vehicles", 3).holds(11, 0, 0, 12, 5);
    }

    private static void atMostSixIfBroken() {
        Check.says(GO_ON);
        Road x = new Road().does("demand", 40).does("pass", 2).holds(0, 0, 19, 19, 18).due(1, "section", 0, 4);
        x.does("demand", 0).does("pass", 1).holds(0, 0, 13, 13, 12).holds(1, 0, 6, 6, 6).due(1, "section", 0, 4);
        x.does("pass", 1).holds(0, 0, 7, 7, 6).holds(1, 0, 6, 6, 6).due(0, "section", 0, 4);
        x.does("pass", 1).holds(0, 0, 0, 0, 0).holds(1, 0, 7, 7, 6);
        // One full lane makes it 6 of each of the others too.
        Road y = new Road().does("stop", 1, 2).does("demand", 24).does("pass", 3).holds(1, 0, 8, 16, 8);
        y.does("demand", 0).does("pass", 1).holds(2, 0, 6, 0, 6);
    }

    private static void noneIfOneIsStopped() {
        Check.says(GO_ON);
        Road x = new Road().does("demand", 3).does("pass", 1).does("stop", 0, 2).does("demand", 0);
        x.does("pass", 1).holds(0, 0, 0, 1, 0).holds(1, 0, 1, 0, 1).does("pass", 20).holds(0, 0, 0, 1, 0);
        Road y = new Road().does("demand", 3).does("pass", 12).holds(11, 0, 1, 1, 1).does("stop", 11, 3);
        y.does("demand", 0).does("pass", 1).due(2, "vehicles", 3).holds(11, 0, 1, 1, 2);
        Road z = new Road().does("order", 0, 0, OPEN).does("stop", 0, 0).does("demand", 4).does("pass", 1);
        z.does("demand", 0).does("pass", 5).holds(0, 1, 0, 0, 0);
    }

    private static void goneFromTheLastSection() {
        Check.says("From the SECTION 11 they are GONE.");
        Road x = new Road().does("demand", 24).does("pass", 12).holds(11, 0, 8, 8, 8).due(0, "vehicles", 3);
        x.does("order", 11, 1, CROSS).does("order", 11, 2, LEAVE).does("pass", 1).due(24, "vehicles", 3);
        x.holds(11, 0, 0, 16, 8).due(1, "section", 11, 4);
        x.does("pass", 1).due(36, "vehicles", 3).holds(11, 0, 0, 20, 16);
    }

    private static void openGoesItsOwnWayFirst() {
        Check.says(LANES);
        Road x = new Road().does("order", 1, 0, OPEN).does("demand", 24).does("pass", 2).holds(1, 0, 8, 8, 8);
        x.does("stop", 1, 2).does("pass", 1).holds(1, 0, 8, 16, 8);
    }

    private static void openGoesLowerNext() {
        Check.says(LANES);
        Road x = new Road().does("order", 1, 0, OPEN).does("stop", 1, 1).does("demand", 24).does("pass", 3);
        x.holds(1, 0, 16, 8, 8).does("pass", 1).holds(1, 4, 20, 10, 10);
        Road y = new Road().does("stop", 1, 2).does("demand", 24).does("pass", 3).holds(1, 0, 8, 16, 8);
        y.does("pass", 1).holds(1, 0, 14, 20, 10);
    }

    private static void openGoesHigherAtLast() {
        Check.says(LANES);
        Road x = new Road().does("stop", 1, 1).does("demand", 24).does("pass", 3);
        x.holds(1, 0, 16, 8, 8).does("pass", 1).holds(1, 0, 20, 14, 10);
    }

    private static void openAtTheEdges() {
        Check.says(LETS_IN);
        Road x = new Road().does("stop", 1, 3).does("demand", 24).does("pass", 4).holds(1, 0, 10, 14, 20);
        Road y = new Road().does("order", 0, 0, OPEN).does("order", 1, 0, OPEN).does("order", 2, 0, OPEN);
        y.does("stop", 1, 0).does("demand", 32).does("pass", 3).holds(1, 16, 8, 8, 8);
        y.does("pass", 1).holds(1, 20, 14, 10, 10);
    }

    private static void leaveGoesLowerFirst() {
        Check.says(LANES);
        new Road().does("order", 0, 2, LEAVE).does("demand", 3).does("pass", 2).holds(1, 0, 2, 0, 1);
        new Road().does("order", 0, 1, LEAVE).does("order", 1, 0, OPEN).does("demand", 3).does("pass", 2)
                .holds(1, 1, 0, 1, 1);
        new Road().does("order", 0, 3, LEAVE).does("demand", 3).does("pass", 2).holds(1, 0, 1, 2, 0);
    }

    private static void leaveGoesHigherNext() {
        Check.says(LANES);
        new Road().does("order", 0, 1, LEAVE).does("demand", 3).does("pass", 2).holds(1, 0, 0, 2, 1);
        new Road().does("order", 1, 1, CROSS).does("demand", 3).does("pass", 2).holds(1, 0, 0, 2, 1);
    }

    private static void leaveGoesItsOwnWayAtLast() {
        Check.says(LANES);
        new Road().does("order", 0, 1, LEAVE).does("order", 1, 2, CROSS).does("demand", 3).does("pass", 2)
                .holds(1, 0, 2, 0, 1);
        new Road().does("order", 0, 2, LEAVE).does("order", 1, 1, CROSS).does("order", 1, 3, CROSS).does("demand", 2)
                .does("pass", 1).does("demand", 0).does("pass", 1).holds(1, 0, 0, 2, 0).holds(0, 0, 0, 0, 0);
    }

    private static void leaveAtTheEdges() {
        Check.says(LETS_IN);
        new Road().does("order", 0, 3, LEAVE).does("order", 1, 2, CROSS).does("demand", 3).does("pass", 2)
                .holds(1, 0, 2, 0, 1);
        new Road().does("order", 0, 0, LEAVE).does("demand", 4).does("pass", 2).holds(1, 0, 2, 1, 1);
        new Road().does("order", 0, 0, LEAVE).does("order", 1, 0, OPEN).does("order", 1, 1, CROSS).does("demand", 4)
                .does("pass", 2).holds(1, 2, 0, 1, 1);
    }

    private static void crossGoesAsLeave() {
        Check.says(LANES);
        Road x = new Road().does("demand", 3).does("pass", 2).does("order", 1, 2, CROSS).does("pass", 1);
        x.holds(2, 0, 2, 0, 1).holds(1, 0, 2, 0, 1);
        Road y = new Road().does("demand", 3).does("pass", 2).does("order", 1, 1, CROSS).does("pass", 1);
        y.holds(2, 0, 0, 2, 1).holds(1, 0, 0, 2, 1);
        Road z = new Road().does("demand", 3).does("pass", 2).does("order", 1, 1, CROSS).does("order", 2, 2, CROSS);
        z.does("pass", 1).holds(2, 0, 2, 0, 1);
    }

    private static void aCrossLetsNoneIn() {
        Check.says(LETS_IN);
        Road x = new Road().does("order", 1, 1, CROSS).does("order", 1, 2, CROSS).does("order", 1, 3, CROSS);
        x.does("demand", 40).does("pass", 5).holds(1, 0, 0, 0, 0).holds(0, 0, 20, 20, 20).due(140, "vehicles", 2);
    }

    private static void aLeaveLetsThemIn() {
        Check.says(LETS_IN);
        Road x = new Road().does("order", 1, 1, LEAVE).does("order", 1, 2, LEAVE).does("order", 1, 3, LEAVE);
        x.does("demand", 3).does("pass", 2).holds(1, 0, 1, 1, 1);
    }

    private static void theTwentiethIsLetIn() {
        Check.says(LETS_IN);
        Road x = new Road().blocked(1).does("demand", 24).does("pass", 2).does("demand", 9).does("pass", 1);
        x.does("demand", 6).does("pass", 1).holds(1, 0, 19, 19, 19).holds(0, 0, 2, 2, 2);
        x.does("demand", 0).does("pass", 1).holds(1, 0, 20, 20, 20).holds(0, 0, 0, 1, 2);
        x.does("pass", 1).holds(1, 0, 20, 20, 20).holds(0, 0, 0, 1, 2);
    }

    private static void theDemand() {
        Check.says(DEMAND);
        Road x = new Road().does("pass", 3).due(0, "vehicles", 0).due(0, "demand", 40).due(0, "vehicles", 0);
        x.does("pass", 1).due(40, "vehicles", 0).holds(0, 0, 14, 13, 13).due(40, "demand", 0).does("pass", 1);
        x.due(40, "vehicles", 0).due(0, "demand", 1).does("pass", 2).due(42, "vehicles", 0).due(1, "demand", 1);
    }

    private static void demandOfEachMinute() {
        Check.says("Tells the demand, of each minute from now on.");
        Road x = new Road().does("demand", 40).does("demand", 5).does("pass", 60).due(300, "vehicles", 0);
        x.argument("demand", 41).argument("demand", -1).does("pass", 1).due(305, "vehicles", 0).due(5, "demand", 0);
        x.does("pass", 60).due(305, "vehicles", 0).due(305, "vehicles", 3).due(0, "vehicles", 1).due(0, "vehicles", 2);
    }

    private static void theFewestAndTheLowest() {
        Check.says(COME);
        new Road().does("demand", 1).does("pass", 1).holds(0, 0, 1, 0, 0);
        new Road().does("demand", 2).does("pass", 1).holds(0, 0, 1, 1, 0);
        new Road().does("demand", 4).does("pass", 1).holds(0, 0, 2, 1, 1);
        Road x = new Road().does("stop", 0, 1).does("demand", 2).does("pass", 1).holds(0, 0, 1, 1, 0);
        x.does("pass", 1).holds(0, 0, 1, 1, 1).does("demand", 3).does("pass", 1).holds(0, 0, 2, 1, 1);
        Road y = new Road().does("stop", 0, 3).does("demand", 3).does("pass", 3).holds(0, 0, 2, 1, 1);
    }

    private static void noneComesIntoACross() {
        Check.says(COME);
        Road x = new Road().does("order", 1, 0, OPEN).due(CROSS, "sign", 0, 0).does("demand", 9).does("pass", 1);
        x.holds(0, 0, 3, 3, 3);
        Road y = new Road().does("look", 0).does("openShoulder", 0, 0).does("demand", 8).does("pass", 1);
        y.holds(0, 2, 2, 2, 2).does("shutShoulder").does("pass", 1).holds(0, 0, 3, 3, 2);
        Road z = new Road().confirmed(0, 0, 0).does("demand", 3).does("pass", 1).holds(0, 0, 1, 1, 1);
    }

    private static void theOpenShoulderTakesThemToo() {
        Check.says(COME);
        Road x = new Road().does("look", 0).does("openShoulder", 0, 0).due(LEAVE, "sign", 0, 0).does("demand", 1);
        x.does("pass", 1).holds(0, 1, 0, 0, 0);
        Road y = new Road().does("order", 0, 0, OPEN).does("order", 1, 0, OPEN).due(OPEN, "sign", 0, 0);
        y.does("demand", 5).does("pass", 1).holds(0, 2, 1, 1, 1);
        Road z = new Road().does("order", 0, 0, LEAVE).does("stop", 0, 0).blocked(0).does("demand", 40).does("pass", 2);
        z.holds(0, 20, 20, 20, 20).due(0, "vehicles", 2).does("pass", 1).holds(0, 20, 20, 20, 20).due(40, "vehicles", 2);
    }

    private static void allThatAreLeftWait() {
        Check.says(COME);
        Road x = new Road().blocked(0).does("demand", 40).does("pass", 1).does("demand", 19).does("pass", 1);
        x.holds(0, 0, 20, 20, 19).due(0, "vehicles", 2).does("demand", 1).does("pass", 1).holds(0, 0, 20, 20, 20);
        x.due(0, "vehicles", 2).does("pass", 1).holds(0, 0, 20, 20, 20).due(1, "vehicles", 2);
        x.does("demand", 40).does("pass", 2).due(81, "vehicles", 2).due(141, "vehicles", 0).due(60, "vehicles", 1);
    }

    private static void theyComeAsSoonAsThereIsRoom() {
        Check.says(COME);
        Road x = new Road().does("demand", 40).does("pass", 3).holds(0, 0, 20, 20, 20).due(18, "vehicles", 2);
        x.does("demand", 0).does("pass", 1).holds(0, 0, 20, 20, 20).due(0, "vehicles", 2).does("pass", 1);
        x.holds(0, 0, 14, 14, 14).due(120, "vehicles", 0);
    }

    private static void brokenByFourteenOrFifteen() {
        Check.says(BROKEN);
        Road x = new Road().does("order", 1, 2, CROSS).does("demand", 21).does("pass", 2).holds(1, 0, 14, 0, 7);
        x.due(0, "section", 1, 4);
        Road y = new Road().does("order", 1, 2, CROSS).does("demand", 22).does("pass", 2).holds(1, 0, 15, 0, 7);
        y.due(1, "section", 1, 4).due(0, "section", 0, 4).due(0, "section", 2, 4);
        Road z = new Road().does("order", 1, 1, CROSS).does("order", 1, 3, CROSS);
        z.does("demand", 14).does("pass", 2).holds(1, 0, 0, 14, 0).due(0, "section", 1, 4);
        Road u = new Road().does("order", 1, 1, CROSS).does("order", 1, 3, CROSS);
        u.does("demand", 15).does("pass", 2).holds(1, 0, 0, 15, 0).due(1, "section", 1, 4);
        Road v = new Road().does("order", 1, 1, CROSS).does("order", 1, 2, CROSS);
        v.does("demand", 22).does("pass", 2).holds(1, 0, 0, 0, 14).due(0, "section", 1, 4);
        Road w = new Road().does("order", 1, 1, CROSS).does("order", 1, 2, CROSS);
        w.does("demand", 23).does("pass", 2).holds(1, 0, 0, 0, 15).due(1, "section", 1, 4);
    }

    private static void brokenByTheShoulder() {
        Check.says(BROKEN);
        for (int last = 6; last <= 7; last++) {
            Road x = new Road().does("order", 1, 0, OPEN).does("order", 1, 1, CROSS).does("stop", 1, 0);
            x.does("demand", 24).does("pass", 1).does("demand", 3 * last).does("pass", 1).does("demand", 0).does("pass", 1);
            x.holds(1, 8 + last, 0, last, last).due(last - 6, "section", 1, 4);
        }
    }

    private static void brokenUntilLessThanEight() {
        Check.says(BROKEN);
        Road x = new Road().does("order", 1, 1, CROSS).does("order", 1, 3, CROSS).does("demand", 20).does("pass", 1);
        x.does("demand", 0).does("pass", 1).holds(1, 0, 0, 20, 0).due(1, "section", 1, 4);
        x.does("pass", 1).holds(1, 0, 0, 14, 0).due(1, "section", 1, 4);
        x.does("pass", 1).holds(1, 0, 0, 8, 0).due(1, "section", 1, 4);
        x.does("pass", 1).holds(1, 0, 0, 2, 0).due(0, "section", 1, 4);
        Road y = new Road().does("order", 1, 1, CROSS).does("order", 1, 3, CROSS).does("demand", 19).does("pass", 1);
        y.does("demand", 0).does("pass", 1).holds(1, 0, 0, 19, 0).due(1, "section", 1, 4);
        y.does("pass", 1).holds(1, 0, 0, 13, 0).due(1, "section", 1, 4);
        y.does("pass", 1).holds(1, 0, 0, 7, 0).due(0, "section", 1, 4);
    }

    private static void brokenByTheShoulderUntilLessThanEight() {
        Check.says(BROKEN);
        Road x = new Road().does("order", 1, 0, OPEN).does("order", 1, 1, CROSS).confirmed(0, 1, 0);
        x.does("demand", 24).does("pass", 2).does("demand", 12).does("pass", 1).does("demand", 0).does("pass", 1);
        x.holds(1, 20, 0, 6, 6).due(1, "section", 1, 4).due(6, "send", 2, 0).does("pass", 5).holds(1, 20, 0, 0, 0);
        x.due(1, "section", 1, 4).does("pass", 1).holds(1, 14, 0, 0, 0).does("pass", 1).holds(1, 8, 0, 0, 0);
        x.due(1, "section", 1, 4).does("pass", 1).holds(1, 2, 0, 0, 0).due(0, "section", 1, 4);
    }

    private static void brokenOnceMore() {
        Check.says(BROKEN);
        Road x = new Road();
        for (int time = 0; time < 3; time++) {
            x.does("demand", 40).does("pass", 2).holds(0, 0, 19, 19, 18).due(1, "section", 0, 4).does("demand", 0);
            x.does("pass", 1).due(1, "section", 0, 4).does("pass", 1).due(0, "section", 0, 4).does("pass", 1);
            x.holds(0, 0, 0, 0, 0);
        }
        x.does("demand", 40).does("pass", 1).holds(0, 0, 14, 13, 13).due(0, "section", 0, 4);
    }

    private static void signsAreSetAtTheEndOfIt() {
        Check.says("Then the SPEED SIGNS are set anew, and the minute is kept for proofs.");
        Road x = new Road().does("demand", 39).does("pass", 1).due(55, "section", 0, 1).due(60, "section", 0, 3);
        x.due(60, "proof", 1, 0, 0).due(120, "proof", 0, 0, 0).due(120, "section", 1, 3);
    }
}
