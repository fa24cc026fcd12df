/** The sentences on incidents and patrols that name a boundary, each in a test of its own. */
public final class IncidentSentencesTest {
    private static final int NONE = RedcrossGantry.NONE;
    private static final int OPEN = RedcrossGantry.OPEN;
    private static final int CROSS = RedcrossGantry.CROSS;
    private static final int STUCK = RedcrossGantry.STUCK;
    private static final int DEAD = RedcrossGantry.DEAD;
    private static final int SUSPECTED = RedcrossGantry.SUSPECTED;
    private static final int CONFIRMED = RedcrossGantry.CONFIRMED;
    private static final int CLEARED = RedcrossGantry.CLEARED;
    private static final String NUMBERED = "INCIDENTS are numbered from 0, at most 12: each is at a SECTION and a LANE, SUSPECTED "
            + "at first.";
    private static final String REPORTED = "IllegalStateException` if there is one there that is not CLEARED, there are 12, or "
            + "it is at the SECTION 0 in a LANE from 1 on";
    private static final String LOOKED_AT = "To look at one that is SUSPECTED makes it CONFIRMED, if a vehicle is STOPPED there, "
            + "otherwise CLEARED.";
    private static final String PATTERN = "The PATTERN is the lowest SECTION whose BELIEF is below 40, but not NONE, while that "
            + "of the next SECTION is 80 or more.";
    private static final String SENT = "One that is free can be sent to an INCIDENT that is CONFIRMED, and to which none is sent.";
    private static final String WAY = "Its WAY is for each SECTION beyond its own, up to that of the INCIDENT, if this is farther "
            + "on: 1 minute, where the SHOULDER is shut, otherwise 1 and a fifth of the most that the SECTION HOLDS in one LANE; "
            + "if it is back, 3 minutes for each SECTION that it is back; 0 if it is the same.";
    private static final String TAKES = "It takes the WAY, as it is when it is sent, and 5 minutes of work; as the last of these "
            + "minutes comes, the INCIDENT is CLEARED, the vehicle that is STOPPED there is gone, and the PATROL is free in that "
            + "SECTION.";

    private IncidentSentencesTest() {
    }

    public static void main(String[] args) {
        noneAtFirst();
        twelveAtMost();
        theTwelfthIsLikeTheOthers();
        clearedOnesCountToo();
        suspectedAtFirst();
        oneThatIsNotCleared();
        onlyAtTheSamePlace();
        reportedAtTheSectionZero();
        confirmedOrCleared();
        onlyOneThatIsSuspected();
        whoIsSent();
        noPatternAtFirst();
        patternByLessThanForty();
        patternByEightyOrMore();
        patternWithoutABelief();
        theLowestPattern();
        noPatternAtTheEnd();
        threePatrols();
        onlyOneThatIsFree();
        onlyToOneThatIsConfirmed();
        onlyOneIsSent();
        wayWhereItIsShut();
        wayByAFifth();
        wayByTheMostInOneLane();
        wayWithoutItsOwnSection();
        wayUpToThatOfTheIncident();
        wayThroughAFullSection();
        wayBack();
        wayToTheSame();
        wayWhetherFreeOrNot();
        theWayAsItIsWhenSent();
        fiveMinutesOfWork();
        theLastOfTheseMinutes();
        freeInThatSection();
        patrolsOnceMore();
        Check.end();
    }

    private static void noneAtFirst() {
        Check.says(NUMBERED);
        new Road().index("incident", 0, 0).index("confirm", 0).index("send", 0, 0).due(0, "report", 0, 0);
    }

    private static void twelveAtMost() {
        Check.says(NUMBERED);
        Road x = new Road();
        for (int number = 0; number < 12; number++) {
            x.index("incident", number, 0).due(number, "report", number, 0).due(number, "incident", number, 0);
        }
        x.state("report", 5, 1).index("incident", 12, 0).index("incident", -1, 0).index("confirm", 12).index("send", 0, 12);
        x.due(0, "incident", 0, 0).due(11, "incident", 11, 0);
    }

    private static void theTwelfthIsLikeTheOthers() {
        Check.says(NUMBERED);
        Road x = new Road();
        for (int number = 0; number < 11; number++) {
            x.due(number, "report", 5, 1).due(CLEARED, "confirm", number);
        }
        x.confirmed(11, 11, 2).laneSigns(2, 10, RedcrossGantry.LEAVE, CROSS).due(16, "send", 2, 11).due(11, "patrol", 2, 1);
        x.does("pass", 16).laneSigns(2, 10, OPEN, OPEN).due(CLEARED, "incident", 11, 2).state("report", 11, 2);
    }

    private static void clearedOnesCountToo() {
        Check.says(REPORTED);
        Road x = new Road();
        for (int number = 0; number < 12; number++) {
            x.due(number, "report", 7, 2).due(CLEARED, "confirm", number);
        }
        x.state("report", 7, 2).state("report", 7, 1).state("confirm", 11);
    }

    private static void suspectedAtFirst() {
        Check.says(NUMBERED);
        Road x = new Road().does("stop", 11, 3).due(0, "report", 11, 3).due(1, "report", 0, 0).due(2, "report", 1, 1);
        x.due(11, "incident", 0, 0).due(3, "incident", 0, 1).due(SUSPECTED, "incident", 0, 2).due(NONE, "incident", 0, 3);
        x.due(0, "incident", 1, 0).due(0, "incident", 1, 1).due(SUSPECTED, "incident", 1, 2).due(NONE, "incident", 1, 3);
        x.does("pass", 60).due(SUSPECTED, "incident", 0, 2).argument("incident", 2, 4).argument("incident", 2, -1);
    }

    private static void oneThatIsNotCleared() {
        Check.says(REPORTED);
        Road x = new Road().does("stop", 4, 1).due(0, "report", 4, 1).state("report", 4, 1).does("confirm", 0);
        x.state("report", 4, 1).due(9, "send", 1, 0).state("report", 4, 1).does("pass", 8).state("report", 4, 1);
        x.does("pass", 1).due(CLEARED, "incident", 0, 2).due(1, "report", 4, 1).state("report", 4, 1);
        x.due(CLEARED, "confirm", 1).due(2, "report", 4, 1).state("report", 4, 1).due(SUSPECTED, "incident", 2, 2);
    }

    private static void onlyAtTheSamePlace() {
        Check.says(REPORTED);
        Road x = new Road().due(0, "report", 4, 1).due(1, "report", 4, 0).due(2, "report", 4, 2).due(3, "report", 3, 1);
        x.due(4, "report", 5, 1).due(5, "report", 1, 1).due(6, "report", 11, 3).state("report", 11, 3);
    }

    private static void reportedAtTheSectionZero() {
        Check.says(REPORTED);
        Road x = new Road().blocked(0);
        x.state("report", 0, 1).state("report", 0, 2).state("report", 0, 3).due(0, "report", 0, 0).due(1, "report", 1, 1);
        x.due(2, "report", 1, 2).due(3, "report", 1, 3).state("report", 0, 0).due(4, "report", 1, 0);
    }

    private static void confirmedOrCleared() {
        Check.says(LOOKED_AT);
        Road x = new Road().does("report", 4, 1).does("stop", 4, 2).does("stop", 3, 1).does("stop", 5, 1);
        x.due(CLEARED, "confirm", 0).due(CLEARED, "incident", 0, 2);
        Road y = new Road().does("report", 4, 1).does("stop", 4, 1).due(CONFIRMED, "confirm", 0);
        y.due(CONFIRMED, "incident", 0, 2).state("stop", 4, 1);
        new Road().confirmed(0, 0, 0).confirmed(1, 11, 3).confirmed(2, 1, 1).due(CROSS, "sign", 11, 3);
    }

    private static void onlyOneThatIsSuspected() {
        Check.says("IllegalStateException` if it is not SUSPECTED");
        Road x = new Road().does("report", 4, 1).due(CLEARED, "confirm", 0).does("stop", 4, 1).state("confirm", 0);
        x.confirmed(1, 4, 2).state("confirm", 1).does("send", 0, 1).state("confirm", 1).does("pass", 9).state("confirm", 1);
        x.due(2, "report", 4, 1).due(CONFIRMED, "confirm", 2);
    }

    private static void whoIsSent() {
        Check.says("Tells of an INCIDENT: 0 its SECTION, 1 its LANE, 2 how it is, SUSPECTED to CLEARED, 3 the PATROL that is sent "
                + "to it, NONE without one, or if it is CLEARED");
        Road x = new Road().confirmed(0, 1, 1).confirmed(1, 1, 2).due(NONE, "incident", 0, 3).does("send", 2, 0);
        x.does("send", 0, 1).due(2, "incident", 0, 3).due(0, "incident", 1, 3).does("pass", 5).due(2, "incident", 0, 3);
        x.does("pass", 1).due(NONE, "incident", 0, 3).due(NONE, "incident", 1, 3).due(1, "incident", 0, 0);
        x.due(1, "incident", 0, 1).due(2, "incident", 1, 1).due(CLEARED, "incident", 1, 2);
    }

    /** All detectors are dead, but of two sections that follow each other. */
    private static Road believing(int section, int number, int next) {
        Road x = new Road();
        for (int other = 0; other < 12; other++) {
            x.does("detector", other, DEAD, 0);
        }
        return x.does("detector", section, STUCK, number).does("detector", section + 1, STUCK, next);
    }

    private static void noPatternAtFirst() {
        Check.says("Returns the PATTERN; NONE without one.");
        new Road().due(NONE, "pattern").does("demand", 3).does("pass", 60).due(NONE, "pattern");
        new Road().blocked(3).does("demand", 40).does("pass", 20).due(20, "section", 3, 1).due(120, "section", 4, 1)
                .due(3, "pattern");
    }

    private static void patternByLessThanForty() {
        Check.says(PATTERN);
        believing(4, 39, 120).due(39, "section", 4, 1).due(4, "pattern");
        believing(4, 40, 120).due(40, "section", 4, 1).due(NONE, "pattern");
        believing(4, 0, 120).due(4, "pattern");
    }

    private static void patternByEightyOrMore() {
        Check.says(PATTERN);
        believing(4, 39, 80).due(80, "section", 5, 1).due(4, "pattern");
        believing(4, 39, 79).due(79, "section", 5, 1).due(NONE, "pattern");
        believing(4, 0, 39).due(NONE, "pattern");
    }

    private static void patternWithoutABelief() {
        Check.says(PATTERN);
        Road x = believing(4, 39, 80).does("detector", 4, DEAD, 0).due(NONE, "section", 4, 1).due(NONE, "pattern");
        x.does("detector", 4, STUCK, 0).does("detector", 5, DEAD, 0).due(NONE, "section", 5, 1).due(NONE, "pattern");
    }

    private static void theLowestPattern() {
        Check.says(PATTERN);
        believing(4, 10, 90).does("detector", 7, STUCK, 10).does("detector", 8, STUCK, 90).due(4, "pattern")
                .does("detector", 4, DEAD, 0).due(7, "pattern").does("detector", 0, STUCK, 39)
                .does("detector", 1, STUCK, 80).due(0, "pattern");
    }

    private static void noPatternAtTheEnd() {
        Check.says(PATTERN);
        believing(10, 10, 80).due(10, "pattern");
        believing(10, 80, 10).due(10, "section", 11, 1).due(NONE, "pattern");
        believing(0, 10, 80).due(0, "pattern");
        believing(0, 80, 10).does("detector", 2, DEAD, 0).due(NONE, "pattern");
    }

    private static void threePatrols() {
        Check.says("There are the PATROLS 0 to 2, free in the SECTION 0 at first.");
        Road x = new Road();
        for (int patrol = 0; patrol < 3; patrol++) {
            x.due(0, "patrol", patrol, 0).due(NONE, "patrol", patrol, 1).due(0, "patrol", patrol, 2);
            x.confirmed(patrol, 2, patrol + 1).due(7, "send", patrol, patrol).due(patrol, "patrol", patrol, 1);
        }
        x.confirmed(3, 2, 0).index("send", 3, 3).index("send", -1, 3).index("patrol", 3, 0).index("way", 3, 0);
        x.does("pass", 7).due(5, "send", 2, 3);
    }

    private static void onlyOneThatIsFree() {
        Check.says(SENT);
        Road x = new Road().confirmed(0, 1, 1).confirmed(1, 1, 2).due(6, "send", 0, 0).state("send", 0, 1);
        x.does("pass", 5).state("send", 0, 1).does("pass", 1).due(5, "send", 0, 1);
    }

    private static void onlyToOneThatIsConfirmed() {
        Check.says("Throws `IllegalStateException` if the PATROL is not free, the INCIDENT is not CONFIRMED, or one is sent to "
                + "it");
        Road x = new Road().does("stop", 1, 1).does("report", 1, 1).state("send", 0, 0).does("confirm", 0);
        x.due(6, "send", 0, 0).does("pass", 6).state("send", 1, 0).state("send", 0, 0).does("report", 1, 1);
        x.does("confirm", 1).state("send", 0, 1);
    }

    private static void onlyOneIsSent() {
        Check.says(SENT);
        Road x = new Road().confirmed(0, 1, 1).due(6, "send", 1, 0).state("send", 0, 0).state("send", 1, 0);
        x.state("send", 2, 0).does("pass", 5).state("send", 2, 0).due(1, "incident", 0, 3).due(1, "patrol", 1, 2);
    }

    private static void wayWhereItIsShut() {
        Check.says(WAY);
        Road x = new Road().does("demand", 40).does("pass", 20);
        for (int section = 0; section < 12; section++) {
            x.due(section, "way", 0, section);
        }
        x.does("order", 3, 0, OPEN).due(3, "way", 0, 3);
    }

    private static void wayByAFifth() {
        Check.says(WAY);
        int[] most = {1, 4, 5, 8};
        int[] due = {1, 1, 2, 2};
        for (int i = 0; i < most.length; i++) {
            Road x = new Road().does("demand", 3 * most[i]).does("pass", 2).does("look", 1).does("openShoulder", 1, 1);
            x.holds(1, 0, most[i], most[i], most[i]).due(due[i], "way", 0, 1).due(due[i] + 2, "way", 0, 3);
        }
        int[] merged = {9, 10, 14, 15};
        int[] way = {2, 3, 3, 4};
        for (int i = 0; i < merged.length; i++) {
            Road x = new Road().does("order", 1, 1, CROSS).does("order", 1, 3, CROSS).does("demand", merged[i]);
            x.does("pass", 2).does("look", 1).does("openShoulder", 1, 1).holds(1, 0, 0, merged[i], 0);
            x.due(way[i], "way", 0, 1);
        }
    }

    private static void wayByTheMostInOneLane() {
        Check.says(WAY);
        Road x = new Road().does("order", 1, 0, OPEN).does("order", 1, 1, CROSS).does("demand", 15).does("pass", 1);
        x.does("look", 1).does("openShoulder", 1, 1).does("pass", 1).holds(1, 5, 0, 5, 5).due(2, "way", 0, 1);
        Road y = new Road().does("order", 1, 1, CROSS).does("order", 1, 2, CROSS).does("demand", 8).does("pass", 2);
        y.does("look", 1).does("openShoulder", 1, 1).holds(1, 0, 0, 0, 5).due(2, "way", 0, 1);
    }

    private static void wayWithoutItsOwnSection() {
        Check.says(WAY);
        Road x = new Road().does("demand", 30).does("pass", 1).does("look", 0).does("look", 1).does("openShoulder", 0, 1);
        x.due(0, "way", 0, 0).due(1, "way", 0, 1);
    }

    private static void wayUpToThatOfTheIncident() {
        Check.says(WAY);
        Road x = new Road().does("demand", 15).does("pass", 12);
        for (int section = 1; section < 12; section++) {
            x.does("look", section);
        }
        x.does("openShoulder", 3, 11).due(2, "way", 0, 2).due(4, "way", 0, 3).due(20, "way", 0, 11);
        x.does("shutShoulder").due(11, "way", 0, 11).does("openShoulder", 11, 11).due(12, "way", 0, 11).due(10, "way", 0, 10);
    }

    private static void wayThroughAFullSection() {
        Check.says(WAY);
        Road x = new Road().blocked(1).does("demand", 40).does("pass", 9).does("look", 1).does("openShoulder", 1, 1);
        x.holds(1, 0, 20, 20, 20).due(5, "way", 0, 1).due(6, "way", 0, 2);
    }

    private static void wayBack() {
        Check.says(WAY);
        Road x = new Road().confirmed(0, 11, 1).due(16, "send", 0, 0).does("pass", 16).due(11, "patrol", 0, 0);
        x.does("look", 5).does("openShoulder", 5, 5).due(3, "way", 0, 10).due(18, "way", 0, 5).due(33, "way", 0, 0);
        x.confirmed(1, 10, 1).due(8, "send", 0, 1);
    }

    private static void wayToTheSame() {
        Check.says(WAY);
        Road x = new Road().due(0, "way", 0, 0).confirmed(0, 0, 0).due(5, "send", 0, 0).does("pass", 5);
        x.due(0, "patrol", 0, 0).due(0, "way", 0, 0).confirmed(1, 4, 1).does("send", 0, 1).does("pass", 9);
        x.due(0, "way", 0, 4).does("look", 4).does("openShoulder", 4, 4).due(0, "way", 0, 4);
    }

    private static void wayWhetherFreeOrNot() {
        Check.says("Returns the WAY of a PATROL to a SECTION by now, whether it is free or not.");
        Road x = new Road().confirmed(0, 4, 1).does("send", 0, 0).due(7, "way", 0, 7).does("pass", 8).due(7, "way", 0, 7);
        x.does("pass", 1).due(3, "way", 0, 7).due(7, "way", 1, 7);
    }

    private static void theWayAsItIsWhenSent() {
        Check.says(TAKES);
        Road x = new Road().does("demand", 15).does("pass", 3).confirmed(0, 2, 1).does("look", 1).does("look", 2);
        x.due(7, "send", 0, 0).does("openShoulder", 1, 2).due(4, "way", 0, 2).due(7, "patrol", 0, 2).does("pass", 6);
        x.due(CONFIRMED, "incident", 0, 2).does("pass", 1).due(CLEARED, "incident", 0, 2);
        Road y = new Road().does("demand", 15).does("pass", 3).confirmed(0, 2, 1).does("look", 1).does("look", 2);
        y.does("openShoulder", 1, 2).due(9, "send", 0, 0).does("shutShoulder").due(2, "way", 0, 2).does("pass", 8);
        y.due(CONFIRMED, "incident", 0, 2).does("pass", 1).due(CLEARED, "incident", 0, 2);
    }

    private static void fiveMinutesOfWork() {
        Check.says("Returns in how many minutes it will be CLEARED.");
        Road x = new Road().confirmed(0, 0, 0).due(5, "send", 0, 0);
        for (int left = 5; left > 0; left--) {
            x.due(left, "patrol", 0, 2).due(CONFIRMED, "incident", 0, 2).due(0, "patrol", 0, 1).does("pass", 1);
        }
        x.due(0, "patrol", 0, 2).due(CLEARED, "incident", 0, 2).due(NONE, "patrol", 0, 1);
    }

    private static void theLastOfTheseMinutes() {
        Check.says(TAKES);
        Road x = new Road().confirmed(0, 3, 2).due(8, "send", 0, 0).does("pass", 7).state("stop", 3, 2).due(CROSS, "sign", 3, 2);
        x.due(1, "patrol", 0, 2).does("pass", 1).due(OPEN, "sign", 3, 2).does("stop", 3, 2).due(OPEN, "proof", 8, 3, 3);
        x.due(CROSS, "proof", 7, 3, 3);
    }

    private static void freeInThatSection() {
        Check.says(TAKES);
        Road x = new Road().confirmed(0, 11, 3).due(16, "send", 1, 0).does("pass", 15).due(0, "patrol", 1, 0);
        x.due(0, "patrol", 1, 1).does("pass", 1).due(11, "patrol", 1, 0).due(NONE, "patrol", 1, 1).due(0, "patrol", 1, 2);
        x.due(0, "patrol", 0, 0).due(0, "patrol", 2, 0).does("stop", 11, 3);
        // Only the vehicle that is stopped there is gone.
        Road y = new Road().confirmed(0, 2, 1).does("stop", 2, 2).does("stop", 3, 1).does("send", 0, 0).does("pass", 7);
        y.does("stop", 2, 1).state("stop", 2, 2).state("stop", 3, 1);
    }

    private static void patrolsOnceMore() {
        Check.says(SENT);
        Road x = new Road().confirmed(0, 3, 1).due(8, "send", 0, 0).does("pass", 8).confirmed(1, 3, 1).due(5, "send", 0, 1);
        x.does("pass", 5).confirmed(2, 1, 1).due(11, "send", 0, 2).due(3, "patrol", 0, 0).does("pass", 11);
        x.due(1, "patrol", 0, 0).confirmed(3, 2, 1).due(6, "send", 0, 3).does("pass", 60).due(2, "patrol", 0, 0);
        x.due(CLEARED, "incident", 3, 2).due(NONE, "patrol", 0, 1).due(0, "patrol", 0, 2);
    }
}
