/** The sentences of the chapter "Road, signs" that name a boundary, each in a test of its own. */
public final class SignSentencesTest {
    private static final int NONE = RedcrossGantry.NONE;
    private static final int OPEN = RedcrossGantry.OPEN;
    private static final int LEAVE = RedcrossGantry.LEAVE;
    private static final int CROSS = RedcrossGantry.CROSS;

    private SignSentencesTest() {
    }

    public static void main(String[] args) {
        aNewObject();
        fiveHundredAndTwelveCalls();
        minutesUpTo600();
        noMinuteAbove600();
        sectionsFollowEachOther();
        eachLaneHasASign();
        theLaneZeroIsTheShoulder();
        twentyAtMost();
        noneAtFirst();
        aManualOrderBeatsWorks();
        aManualOrderBeatsAnIncident();
        aManualOrderBeatsTheShutShoulder();
        aManualOrderTakenBack();
        worksBeatIncidents();
        aConfirmedIncident();
        theShoulderIsShutAtFirst();
        otherwiseOpen();
        eachPerLane();
        leaveAheadOfEachKindOfCross();
        leaveAtTheNextIsNoCross();
        onlyWhatIsToldOpenIsLeft();
        theLastSectionHasNoNext();
        onlyTheSameLane();
        signsAreSoAtAnyTime();
        crossAtTheSectionZero();
        ordersAnswerTheOrderBefore();
        lawfulAlways();
        Check.end();
    }

    private static void aNewObject() {
        Check.says("Begins in the minute 0, with an empty road and clear weather.");
        Road x = new Road();
        for (int section = 0; section < 12; section++) {
            x.holds(section, 0, 0, 0, 0);
        }
        x.due(0, "vehicles", 0).due(0, "vehicles", 1).due(0, "vehicles", 2).due(0, "vehicles", 3);
        x.due(120, "proof", 0, 0, 0).state("proof", 1, 0, 0).due(RedcrossGantry.CLEAR, "weather", 0);
        x.due(0, "demand", 0).due(0, "works", 1, 1, 1, 0, 1).due(1, "isOn", 0).due(1, "pass", 1).due(0, "isOn", 0);
    }

    private static void fiveHundredAndTwelveCalls() {
        Check.says("An object is used for at most 512 calls after it has been made; what later calls answer is free.");
        Road x = new Road();
        for (int call = 1; call <= 512; call++) {
            x.due(call == 1 ? 0 : (call - 1) % 41, "demand", call % 41);
        }
        Road y = new Road();
        for (int minute = 1; minute <= 512; minute++) {
            y.due(minute, "pass", 1);
        }
    }

    private static void minutesUpTo600() {
        Check.says("Minutes are counted from 0, at most 600.");
        Road x = new Road();
        x.does("demand", 1);
        for (int minute = 60; minute < 600; minute += 60) {
            x.due(minute, "pass", 60);
        }
        x.due(590, "pass", 50).state("pass", 11).state("pass", 60).due(599, "pass", 9);
        x.due(600, "pass", 1).state("pass", 1).state("pass", 60);
        x.due(600, "vehicles", 0).due(120, "proof", 600, 0, 0).state("proof", 601, 0, 0);
    }

    private static void noMinuteAbove600() {
        Check.says("Throws `IllegalStateException` if it would be above 600");
        Road x = new Road().does("demand", 2);
        for (int minute = 60; minute <= 540; minute += 60) {
            x.due(minute, "pass", 60);
        }
        x.due(541, "pass", 1).state("pass", 60).due(1082, "vehicles", 0).due(599, "pass", 58).state("pass", 2);
        x.due(1198, "vehicles", 0).due(600, "pass", 1).state("pass", 1).due(1200, "vehicles", 0);
        Road y = new Road();
        for (int minute = 60; minute <= 600; minute += 60) {
            y.due(minute, "pass", 60);
        }
    }

    private static void sectionsFollowEachOther() {
        Check.says("The SECTIONS 0 to 11 follow each other, traffic goes from 0 on");
        Road x = new Road().does("demand", 1).does("pass", 1).does("demand", 0);
        for (int section = 0; section < 12; section++) {
            x.holds(section, 0, 1, 0, 0).due(1, "vehicles", 1).due(0, "vehicles", 3).does("pass", 1);
        }
        x.holds(11, 0, 0, 0, 0).due(0, "vehicles", 1).due(1, "vehicles", 3);
    }

    private static void eachLaneHasASign() {
        Check.says("At each SECTION each LANE has a LANE SIGN, OPEN, LEAVE or CROSS.");
        for (int lane = 0; lane < 4; lane++) {
            Road x = new Road();
            for (int section = 11; section > 0; section--) {
                x.does("order", section, lane, section % 3).due(section % 3, "sign", section, lane);
            }
            x.laneSigns(lane, 1, LEAVE, CROSS, OPEN, LEAVE, CROSS, OPEN, LEAVE, CROSS, OPEN, LEAVE, CROSS);
        }
    }

    private static void theLaneZeroIsTheShoulder() {
        Check.says("each has the LANES 0 to 3 side by side: the LANE 0 is the SHOULDER");
        Road x = new Road().does("look", 11).does("openShoulder", 11, 11);
        x.laneSigns(0, 10, CROSS, OPEN).laneSigns(1, 10, OPEN, OPEN).laneSigns(3, 10, OPEN, OPEN);
        x.does("shutShoulder").laneSigns(0, 10, CROSS, CROSS).laneSigns(1, 10, OPEN, OPEN).laneSigns(3, 10, OPEN, OPEN);
    }

    private static void twentyAtMost() {
        Check.says("A SECTION HOLDS in each LANE 0 to 20 vehicles, 0 at first.");
        Road x = new Road().blocked(1).does("demand", 40).does("pass", 20);
        x.holds(0, 0, 20, 20, 20).holds(1, 0, 20, 20, 20).due(120, "vehicles", 1).due(680, "vehicles", 2);
    }

    private static void noneAtFirst() {
        Check.says("A SECTION HOLDS in each LANE 0 to 20 vehicles, 0 at first.");
        Road x = new Road().does("demand", 40);
        x.holds(0, 0, 0, 0, 0).holds(11, 0, 0, 0, 0).does("pass", 1).holds(0, 0, 14, 13, 13).holds(1, 0, 0, 0, 0);
    }

    private static void aManualOrderBeatsWorks() {
        Check.says("Manual beats works, works beat incidents, each per lane.");
        Road x = new Road().does("works", 2, 5, 5, 0, 9).laneSigns(2, 4, LEAVE, CROSS);
        x.does("order", 5, 2, OPEN).laneSigns(2, 4, OPEN, OPEN);
        x.does("order", 5, 2, LEAVE).laneSigns(2, 4, OPEN, LEAVE);
        x.does("order", 5, 2, CROSS).laneSigns(2, 4, LEAVE, CROSS).does("pass", 9).due(0, "isOn", 0);
        x.laneSigns(2, 4, LEAVE, CROSS).does("order", 5, 2, NONE).laneSigns(2, 4, OPEN, OPEN);
    }

    private static void aManualOrderBeatsAnIncident() {
        Check.says("What is TOLD for a LANE at a SECTION is the first of these that there is: a manual order there, OPEN, "
                + "LEAVE or CROSS");
        Road x = new Road().confirmed(0, 5, 2).laneSigns(2, 4, LEAVE, CROSS);
        x.does("order", 5, 2, OPEN).laneSigns(2, 4, OPEN, OPEN);
        x.does("order", 5, 2, LEAVE).laneSigns(2, 4, OPEN, LEAVE);
        x.does("order", 5, 2, CROSS).laneSigns(2, 4, LEAVE, CROSS);
        Road y = new Road().does("order", 5, 2, OPEN).confirmed(0, 5, 2).laneSigns(2, 4, OPEN, OPEN);
        y.does("works", 2, 5, 5, 0, 9).laneSigns(2, 4, OPEN, OPEN).does("order", 5, 2, NONE).laneSigns(2, 4, LEAVE, CROSS);
    }

    private static void aManualOrderBeatsTheShutShoulder() {
        Check.says("What is TOLD for a LANE at a SECTION is the first of these that there is: a manual order there, OPEN, "
                + "LEAVE or CROSS");
        Road x = new Road().does("order", 6, 0, OPEN).laneSigns(0, 5, CROSS, LEAVE, CROSS);
        x.does("order", 6, 0, LEAVE).laneSigns(0, 5, CROSS, LEAVE, CROSS).does("order", 11, 0, OPEN);
        x.due(OPEN, "sign", 11, 0).due(CROSS, "sign", 10, 0).due(0, "shutShoulder").due(OPEN, "sign", 11, 0);
        x.does("look", 6).does("openShoulder", 6, 6).due(LEAVE, "sign", 6, 0);
        x.does("order", 6, 0, CROSS).due(CROSS, "sign", 6, 0);
    }

    private static void aManualOrderTakenBack() {
        Check.says("Orders a LANE SIGN by hand, or takes the order back.");
        Road x = new Road().does("order", 6, 1, CROSS).does("order", 6, 1, NONE).laneSigns(1, 5, OPEN, OPEN);
        x.does("order", 0, 1, LEAVE).due(LEAVE, "sign", 0, 1).does("order", 0, 1, NONE).due(OPEN, "sign", 0, 1);
        x.does("order", 11, 0, OPEN).does("order", 11, 0, NONE).due(CROSS, "sign", 11, 0);
        for (int lane = 1; lane < 4; lane++) {
            x.does("order", 11, lane, CROSS).laneSigns(lane, 10, LEAVE, CROSS);
            x.does("order", 11, lane, NONE).laneSigns(lane, 10, OPEN, OPEN);
        }
    }

    private static void worksBeatIncidents() {
        Check.says("CROSS, if works are on there");
        Road x = new Road().does("works", 3, 7, 7, 2, 4).confirmed(0, 7, 3).due(8 + 4, "send", 0, 0).does("pass", 3);
        x.due(1, "isOn", 0).due(CROSS, "sign", 7, 3).does("pass", 1).due(0, "isOn", 0).due(CROSS, "sign", 7, 3);
        Road y = new Road().does("works", 3, 7, 7, 0, 30).confirmed(0, 7, 3).due(12, "send", 0, 0).does("pass", 12);
        y.due(RedcrossGantry.CLEARED, "incident", 0, 2).due(CROSS, "sign", 7, 3).laneSigns(3, 6, LEAVE, CROSS, OPEN);
    }

    private static void aConfirmedIncident() {
        Check.says("CROSS, if an INCIDENT there is CONFIRMED");
        Road x = new Road().does("stop", 7, 1).due(OPEN, "sign", 7, 1).does("report", 7, 1).due(OPEN, "sign", 7, 1);
        x.does("confirm", 0).laneSigns(1, 6, LEAVE, CROSS, OPEN);
        x.does("report", 3, 1).due(OPEN, "sign", 3, 1).due(RedcrossGantry.CLEARED, "confirm", 1).due(OPEN, "sign", 3, 1);
        Road y = new Road().does("look", 11).does("openShoulder", 11, 11).confirmed(0, 11, 0).due(CROSS, "sign", 11, 0);
        y.due(16, "send", 0, 0).does("pass", 16).does("look", 11).due(1, "openShoulder", 11, 11);
        y.due(OPEN, "sign", 11, 0);
        Road z = new Road().confirmed(0, 11, 0).does("stop", 10, 1).does("look", 10).does("openShoulder", 10, 10);
        z.laneSigns(0, 9, CROSS, LEAVE, CROSS).confirmed(1, 0, 0).due(CROSS, "sign", 0, 0);
    }

    private static void theShoulderIsShutAtFirst() {
        Check.says("for the SHOULDER CROSS, where it is shut, as at first everywhere; OPEN");
        Road x = new Road();
        for (int section = 0; section < 12; section++) {
            x.due(CROSS, "sign", section, 0);
        }
        x.due(0, "shutShoulder");
    }

    private static void otherwiseOpen() {
        Check.says("for the SHOULDER CROSS, where it is shut, as at first everywhere; OPEN");
        Road x = new Road();
        for (int section = 0; section < 12; section++) {
            x.due(OPEN, "sign", section, 1).due(OPEN, "sign", section, 2).due(OPEN, "sign", section, 3);
            x.does("look", section);
        }
        x.due(12, "openShoulder", 0, 11);
        for (int section = 0; section < 12; section++) {
            x.due(OPEN, "sign", section, 0);
        }
    }

    private static void eachPerLane() {
        Check.says("Manual beats works, works beat incidents, each per lane.");
        Road x = new Road().does("works", 1, 5, 6, 0, 9).confirmed(0, 5, 2).does("order", 5, 3, LEAVE);
        x.due(CROSS, "sign", 5, 0).due(CROSS, "sign", 5, 1).due(CROSS, "sign", 5, 2).due(LEAVE, "sign", 5, 3);
        x.does("order", 5, 1, OPEN).due(LEAVE, "sign", 5, 1).due(CROSS, "sign", 5, 2).due(CROSS, "sign", 6, 1);
        x.due(OPEN, "sign", 4, 1).due(LEAVE, "sign", 4, 2).due(OPEN, "sign", 4, 3);
    }

    private static void leaveAheadOfEachKindOfCross() {
        Check.says("The LANE SIGN is what is TOLD, but LEAVE, if OPEN is TOLD there, and CROSS is TOLD for the LANE at the "
                + "next SECTION.");
        new Road().does("order", 1, 3, CROSS).laneSigns(3, 0, LEAVE, CROSS, OPEN);
        new Road().does("order", 11, 3, CROSS).laneSigns(3, 9, OPEN, LEAVE, CROSS);
        new Road().does("works", 2, 3, 4, 0, 1).laneSigns(2, 1, OPEN, LEAVE, CROSS, CROSS, OPEN);
        new Road().confirmed(0, 8, 1).laneSigns(1, 6, OPEN, LEAVE, CROSS, OPEN);
        Road x = new Road().does("look", 4).does("look", 5).does("openShoulder", 4, 5);
        x.laneSigns(0, 3, CROSS, OPEN, LEAVE, CROSS);
    }

    private static void leaveAtTheNextIsNoCross() {
        Check.says("The LANE SIGN is what is TOLD, but LEAVE, if OPEN is TOLD there, and CROSS is TOLD for the LANE at the "
                + "next SECTION.");
        new Road().does("order", 6, 1, LEAVE).laneSigns(1, 4, OPEN, OPEN, LEAVE, OPEN);
        new Road().does("order", 6, 1, LEAVE).does("order", 7, 1, CROSS).laneSigns(1, 4, OPEN, OPEN, LEAVE, CROSS);
        new Road().does("order", 5, 1, OPEN).does("order", 6, 1, OPEN).does("order", 7, 1, CROSS)
                .laneSigns(1, 4, OPEN, OPEN, LEAVE, CROSS);
    }

    private static void onlyWhatIsToldOpenIsLeft() {
        Check.says("The LANE SIGN is what is TOLD, but LEAVE, if OPEN is TOLD there, and CROSS is TOLD for the LANE at the "
                + "next SECTION.");
        new Road().does("order", 6, 1, CROSS).does("order", 7, 1, CROSS).laneSigns(1, 5, LEAVE, CROSS, CROSS, OPEN);
        new Road().does("order", 6, 1, LEAVE).does("order", 7, 1, OPEN).laneSigns(1, 5, OPEN, LEAVE, OPEN);
    }

    private static void theLastSectionHasNoNext() {
        Check.says("The LANE SIGN is what is TOLD, but LEAVE, if OPEN is TOLD there, and CROSS is TOLD for the LANE at the "
                + "next SECTION.");
        Road x = new Road().does("order", 1, 0, CROSS).does("order", 1, 1, CROSS).does("order", 1, 2, CROSS);
        x.does("order", 11, 0, OPEN).due(OPEN, "sign", 11, 0).due(OPEN, "sign", 11, 1).due(OPEN, "sign", 11, 3);
        x.does("order", 11, 3, LEAVE).due(LEAVE, "sign", 11, 3).due(OPEN, "sign", 10, 3);
    }

    private static void onlyTheSameLane() {
        Check.says("The LANE SIGN is what is TOLD, but LEAVE, if OPEN is TOLD there, and CROSS is TOLD for the LANE at the "
                + "next SECTION.");
        Road x = new Road().does("order", 6, 3, CROSS).does("order", 9, 1, CROSS);
        x.due(OPEN, "sign", 5, 2).due(LEAVE, "sign", 5, 3).due(CROSS, "sign", 6, 3).due(OPEN, "sign", 6, 1);
        x.due(LEAVE, "sign", 8, 1).due(OPEN, "sign", 8, 2).due(OPEN, "sign", 7, 3).due(OPEN, "sign", 9, 2);
    }

    private static void signsAreSoAtAnyTime() {
        Check.says("LANE SIGNS are what is so by now, at any time.");
        Road x = new Road().does("pass", 3).does("order", 6, 1, CROSS).laneSigns(1, 5, LEAVE, CROSS);
        x.does("order", 6, 1, NONE).laneSigns(1, 5, OPEN, OPEN);
        x.does("works", 1, 6, 6, 3, 4).laneSigns(1, 5, LEAVE, CROSS).does("pass", 1).laneSigns(1, 5, OPEN, OPEN);
        x.does("works", 1, 6, 6, 5, 6).laneSigns(1, 5, OPEN, OPEN).does("pass", 1).laneSigns(1, 5, LEAVE, CROSS);
        x.does("look", 11).does("openShoulder", 11, 11).due(OPEN, "sign", 11, 0);
        x.does("stop", 2, 0).due(CROSS, "sign", 11, 0).does("openShoulder", 11, 11).due(OPEN, "sign", 11, 0);
        x.does("shutShoulder").due(CROSS, "sign", 11, 0).due(CROSS, "proof", 5, 11, 1);
    }

    private static void crossAtTheSectionZero() {
        Check.says("IllegalStateException` if it is CROSS at the SECTION 0");
        Road x = new Road();
        for (int lane = 0; lane < 4; lane++) {
            x.state("order", 0, lane, CROSS).does("order", 0, lane, LEAVE).state("order", 0, lane, CROSS);
            x.due(LEAVE, "order", 0, lane, OPEN).due(OPEN, "order", 0, lane, NONE).due(NONE, "order", 1, lane, CROSS);
        }
    }

    private static void ordersAnswerTheOrderBefore() {
        Check.says("Returns the order before; NONE without one.");
        Road x = new Road().does("works", 1, 5, 5, 0, 9).due(NONE, "order", 5, 1, OPEN);
        x.due(OPEN, "order", 5, 1, LEAVE).due(LEAVE, "order", 5, 1, CROSS).due(CROSS, "order", 5, 1, CROSS);
        x.due(CROSS, "order", 5, 1, NONE).due(NONE, "order", 5, 1, NONE).due(NONE, "order", 5, 2, OPEN);
        x.due(NONE, "order", 5, 0, OPEN).due(NONE, "order", 4, 1, OPEN).due(OPEN, "order", 5, 0, NONE);
    }

    private static void lawfulAlways() {
        Check.says("Tells whether all signs are lawful: each SPEED SIGN at most 20 above the next one, each LANE SIGN of a "
                + "SECTION ahead of a CROSS other than OPEN; found anew; always so.");
        new Road().due(1, "isLawful").does("pass", 60).due(1, "isLawful");
        Road x = Scenes.busy();
        for (int i = 0; i < 30; i++) {
            x.does("order", 1 + i % 11, i % 4, CROSS).does("order", i % 12, (i + 1) % 4, OPEN).due(1, "isLawful");
            x.does("limit", i % 12, 40 + i % 5 * 20).due(1, "isLawful").does("pass", 1 + i % 3).due(1, "isLawful");
        }
    }
}
