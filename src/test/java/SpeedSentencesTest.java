/** The sentences of the chapter "Detectors, beliefs, speed signs" that name a boundary, each in a test of its own. */
public final class SpeedSentencesTest {
    private static final int NONE = RedcrossGantry.NONE;
    private static final int GOOD = RedcrossGantry.GOOD;
    private static final int STUCK = RedcrossGantry.STUCK;
    private static final int DEAD = RedcrossGantry.DEAD;
    private static final int CROSS = RedcrossGantry.CROSS;
    private static final int OPEN = RedcrossGantry.OPEN;
    private static final String GUESS = "The GUESS of a SECTION is the sum of the SPEEDS of the SECTIONS ahead of it and behind "
            + "it whose detectors are GOOD, by how many these are; there may be none.";
    private static final String BELIEF = "The BELIEF is the SPEED, if the detector is GOOD; if it is STUCK, its number, but the "
            + "GUESS, if there is one that is more than 30 away from that number; if it is DEAD, the GUESS, NONE without one.";
    private static final String WANT = "its WANT is the limit that is ordered by hand there, if one is, whatever the weather; "
            + "otherwise 40 if the BELIEF is below 40, 60 if it is below 60, or NONE, 80 if it is below 80, 120 otherwise, but "
            + "at most what the weather lets: CLEAR 120, WIND 80, FOG 60, ICE 40.";
    private static final String STAYS = "Without a limit ordered by hand the SPEED SIGN stays as it is, if the WANT is above it, "
            + "and it became lower less than 3 minutes ago (in one of the two minutes ahead of this one).";
    private static final String CAP = "Then the SPEED SIGN is the WANT, or what it was, if it stays; but at most 20 above that "
            + "of the next SECTION, as that is then, also with a limit ordered by hand.";

    private SpeedSentencesTest() {
    }

    public static void main(String[] args) {
        speedByTheMost();
        speedByEachLane();
        detectorsAtTheirNumbers();
        detectorsAnswerWhatTheyWere();
        guessOfBoth();
        guessOfOne();
        guessOfNone();
        guessAtBothEnds();
        believedIfGood();
        stuckFarBelowTheGuess();
        stuckFarAboveTheGuess();
        stuckFarFromARoundedGuess();
        stuckWithoutAGuess();
        believedIfDead();
        signsAtFirst();
        wantByBelief();
        wantWithoutABelief();
        wantByTheWeather();
        wantByBeliefAndWeather();
        wantByHand();
        staysForTwoMinutes();
        staysAfterEachLowering();
        staysAnewWhenLoweredAgain();
        staysAfterACap();
        staysNotAfterARise();
        staysNotByHand();
        staysAfterAHandThatRaisedIt();
        lowerAtOnce();
        fromTheLastDownToTheFirst();
        twentyAboveTheNext();
        twentyAboveByHand();
        whatStaysIsCappedToo();
        theLastOneHasNoNext();
        withTheNextMinute();
        weatherAnswersWhatItWas();
        limitsAnswerWhatTheyWere();
        Check.end();
    }

    /** The last section believes a number, as the one ahead of it is dead. */
    private static Road believing(int number) {
        return new Road().does("detector", 10, DEAD, 0).does("detector", 11, STUCK, number);
    }

    private static void speedByTheMost() {
        Check.says("The SPEED of a SECTION is 120 less 5 times the most that it HOLDS in one LANE.");
        Road x = new Road().due(120, "section", 0, 0).due(120, "section", 11, 0);
        x.does("demand", 1).does("pass", 1).due(115, "section", 0, 0).due(120, "section", 1, 0);
        Road y = new Road().blocked(0).does("demand", 40).does("pass", 1).holds(0, 0, 14, 13, 13);
        y.due(50, "section", 0, 0).does("pass", 9).holds(0, 0, 20, 20, 20).due(20, "section", 0, 0);
        new Road().blocked(5).does("stop", 5, 0).due(120, "section", 5, 0);
    }

    private static void speedByEachLane() {
        Check.says("The SPEED of a SECTION is 120 less 5 times the most that it HOLDS in one LANE.");
        Road x = new Road().does("demand", 1).does("pass", 1).does("order", 1, 1, CROSS).does("pass", 1);
        x.holds(1, 0, 0, 1, 0).due(115, "section", 1, 0);
        Road y = new Road().does("order", 0, 0, OPEN).does("demand", 5).does("pass", 1).holds(0, 2, 1, 1, 1);
        y.due(110, "section", 0, 0);
        Road z = new Road().does("order", 1, 1, CROSS).does("order", 1, 2, CROSS).does("demand", 3).does("pass", 1);
        z.does("demand", 0).does("pass", 1).holds(1, 0, 0, 0, 2).due(110, "section", 1, 0);
        new Road().does("demand", 9).does("pass", 1).holds(0, 0, 3, 3, 3).due(105, "section", 0, 0);
    }

    private static void detectorsAtTheirNumbers() {
        Check.says("Each SECTION has a detector: GOOD, as at first, STUCK at a number, 0 to 120, or DEAD.");
        Road x = new Road();
        for (int section = 0; section < 12; section++) {
            x.due(GOOD, "section", section, 5);
        }
        believing(0).due(0, "section", 11, 1).due(STUCK, "section", 11, 5);
        believing(120).due(120, "section", 11, 1).due(DEAD, "section", 10, 5);
        believing(0).does("detector", 11, STUCK, 1).due(1, "section", 11, 1);
        believing(7).argument("detector", 11, STUCK, 121).argument("detector", 11, STUCK, -1).due(7, "section", 11, 1);
        believing(7).argument("detector", 11, 3, 50).argument("detector", 11, -1, 50).due(7, "section", 11, 1);
    }

    private static void detectorsAnswerWhatTheyWere() {
        Check.says("Returns what it was.");
        Road x = new Road().due(GOOD, "detector", 0, GOOD, 0).due(GOOD, "detector", 0, DEAD, 121);
        x.due(DEAD, "detector", 0, DEAD, -1).due(DEAD, "detector", 0, STUCK, 3).due(STUCK, "detector", 0, STUCK, 4);
        x.due(STUCK, "detector", 0, GOOD, 999).due(GOOD, "detector", 0, GOOD, 0).due(GOOD, "detector", 11, STUCK, 0);
    }

    private static void guessOfBoth() {
        Check.says("All numbers are whole. A quotient is rounded down; nothing that is divided is below 0.");
        Road x = new Road().does("demand", 3).does("pass", 1).due(115, "section", 0, 0).due(120, "section", 2, 0);
        x.due(117, "section", 1, 2).due(120, "section", 2, 2);
        Road y = new Road().does("demand", 6).does("pass", 1).due(110, "section", 0, 0).due(115, "section", 1, 2);
        Road z = new Road().blocked(0).does("demand", 40).does("pass", 9).due(70, "section", 1, 2);
    }

    private static void guessOfOne() {
        Check.says(GUESS);
        Road x = new Road().does("demand", 3).does("pass", 1).does("detector", 2, DEAD, 0).due(115, "section", 1, 2);
        x.does("detector", 2, STUCK, 50).due(115, "section", 1, 2).does("detector", 2, GOOD, 0).due(117, "section", 1, 2);
        x.does("detector", 0, DEAD, 0).due(120, "section", 1, 2).does("detector", 0, STUCK, 50).due(120, "section", 1, 2);
        x.does("detector", 1, DEAD, 0).due(120, "section", 1, 2);
    }

    private static void guessOfNone() {
        Check.says(GUESS);
        Road x = new Road().does("detector", 4, DEAD, 0).does("detector", 6, STUCK, 9).due(NONE, "section", 5, 2);
        x.due(120, "section", 5, 1).due(120, "section", 4, 2).due(120, "section", 7, 2);
        x.does("detector", 6, GOOD, 0).due(120, "section", 5, 2);
    }

    private static void guessAtBothEnds() {
        Check.says(GUESS);
        Road x = new Road().does("demand", 3).does("pass", 2).due(115, "section", 0, 2).due(120, "section", 11, 2);
        x.does("detector", 1, DEAD, 0).due(NONE, "section", 0, 2).does("detector", 10, STUCK, 0).due(NONE, "section", 11, 2);
        // Those next to the ends are guessed of by the ends too.
        x.does("detector", 2, DEAD, 0).due(115, "section", 1, 2).does("detector", 9, DEAD, 0).due(120, "section", 10, 2);
        x.does("detector", 0, DEAD, 0).due(NONE, "section", 1, 2).does("detector", 11, DEAD, 0).due(NONE, "section", 10, 2);
    }

    private static void believedIfGood() {
        Check.says(BELIEF);
        Road x = new Road().blocked(0).does("demand", 40).does("pass", 9).due(20, "section", 0, 1);
        x.does("detector", 0, STUCK, 100).does("detector", 0, GOOD, 77).due(20, "section", 0, 1).due(120, "section", 1, 1);
    }

    private static void stuckFarBelowTheGuess() {
        Check.says(BELIEF);
        Road x = new Road().does("detector", 5, STUCK, 90).due(90, "section", 5, 1);
        x.does("detector", 5, STUCK, 89).due(120, "section", 5, 1).does("detector", 5, STUCK, 0).due(120, "section", 5, 1);
        x.does("detector", 5, STUCK, 120).due(120, "section", 5, 1);
    }

    private static void stuckFarAboveTheGuess() {
        Check.says(BELIEF);
        Road x = new Road().blocked(1).does("demand", 40).does("pass", 9).due(20, "section", 0, 2);
        x.does("detector", 0, STUCK, 50).due(50, "section", 0, 1).does("detector", 0, STUCK, 51).due(20, "section", 0, 1);
        x.does("detector", 0, STUCK, 120).due(20, "section", 0, 1).does("detector", 0, STUCK, 0).due(0, "section", 0, 1);
    }

    private static void stuckFarFromARoundedGuess() {
        Check.says(BELIEF);
        Road x = new Road().does("demand", 3).does("pass", 1).due(117, "section", 1, 2);
        x.does("detector", 1, STUCK, 87).due(87, "section", 1, 1).does("detector", 1, STUCK, 86).due(117, "section", 1, 1);
    }

    private static void stuckWithoutAGuess() {
        Check.says(BELIEF);
        believing(0).due(NONE, "section", 11, 2).due(0, "section", 11, 1);
        believing(31).due(31, "section", 11, 1).does("detector", 10, GOOD, 0).due(120, "section", 11, 1);
        believing(29).does("detector", 10, STUCK, 29).due(29, "section", 11, 1);
    }

    private static void believedIfDead() {
        Check.says(BELIEF);
        Road x = new Road().blocked(0).does("demand", 40).does("pass", 9).does("detector", 1, DEAD, 0);
        x.due(70, "section", 1, 1).does("detector", 0, DEAD, 0).due(120, "section", 1, 1).due(NONE, "section", 0, 1);
        x.does("detector", 2, DEAD, 0).due(NONE, "section", 1, 1).due(120, "section", 2, 1);
    }

    private static void signsAtFirst() {
        Check.says("Each SECTION has a SPEED SIGN, 40, 60, 80, 100 or 120, 120 at first.");
        new Road().lastSpeedSigns(120, 120, 120, 120, 120, 120, 120, 120, 120, 120, 120, 120);
        new Road().does("pass", 1).lastSpeedSigns(120, 120, 120, 120, 120, 120, 120, 120, 120, 120, 120, 120);
    }

    private static void wantByBelief() {
        Check.says(WANT);
        believing(0).does("pass", 1).lastSpeedSigns(60, 40);
        believing(39).does("pass", 1).lastSpeedSigns(60, 40);
        believing(40).does("pass", 1).lastSpeedSigns(80, 60);
        believing(59).does("pass", 1).lastSpeedSigns(80, 60);
        believing(60).does("pass", 1).lastSpeedSigns(100, 80);
        believing(79).does("pass", 1).lastSpeedSigns(100, 80);
        believing(80).does("pass", 1).lastSpeedSigns(120, 120);
        believing(99).does("pass", 1).lastSpeedSigns(120, 120);
        believing(120).does("pass", 1).lastSpeedSigns(120, 120);
    }

    private static void wantWithoutABelief() {
        Check.says(WANT);
        int[] due = {60, 60, 60, 40};
        for (int weather = 0; weather < 4; weather++) {
            Road x = new Road().does("detector", 10, DEAD, 0).does("detector", 11, DEAD, 0).due(NONE, "section", 11, 1);
            x.does("weather", weather).does("pass", 1).due(due[weather], "section", 11, 3);
        }
    }

    private static void wantByTheWeather() {
        Check.says(WANT);
        int[] due = {120, 80, 60, 40};
        for (int weather = 0; weather < 4; weather++) {
            Road x = new Road().does("weather", weather).does("pass", 1);
            for (int section = 0; section < 12; section++) {
                x.due(due[weather], "section", section, 3);
            }
        }
    }

    private static void wantByBeliefAndWeather() {
        Check.says(WANT);
        believing(39).does("weather", RedcrossGantry.FOG).does("pass", 1).lastSpeedSigns(60, 40);
        believing(59).does("weather", RedcrossGantry.WIND).does("pass", 1).lastSpeedSigns(80, 60);
        believing(79).does("weather", RedcrossGantry.WIND).does("pass", 1).lastSpeedSigns(80, 80);
        believing(79).does("weather", RedcrossGantry.FOG).does("pass", 1).lastSpeedSigns(60, 60);
        believing(59).does("weather", RedcrossGantry.ICE).does("pass", 1).lastSpeedSigns(40, 40);
    }

    private static void wantByHand() {
        Check.says(WANT);
        for (int limit = 40; limit <= 120; limit += 20) {
            new Road().does("weather", RedcrossGantry.ICE).does("limit", 11, limit).does("pass", 1)
                    .lastSpeedSigns(40, 40, limit);
            believing(0).does("limit", 11, limit).does("pass", 1).due(limit, "section", 11, 3);
            new Road().does("limit", 0, limit).does("pass", 1).due(limit, "section", 0, 3).due(120, "section", 1, 3);
        }
    }

    private static void staysForTwoMinutes() {
        Check.says(STAYS);
        Road x = new Road().does("weather", RedcrossGantry.ICE).does("pass", 1).lastSpeedSigns(40, 40);
        x.does("weather", RedcrossGantry.CLEAR).does("pass", 1).lastSpeedSigns(40, 40).does("pass", 1).lastSpeedSigns(40, 40);
        x.does("pass", 1).lastSpeedSigns(120, 120);
    }

    private static void staysAfterEachLowering() {
        Check.says(STAYS);
        Road x = believing(0).does("pass", 1).does("detector", 11, STUCK, 120).does("pass", 2).lastSpeedSigns(60, 40);
        x.does("pass", 1).lastSpeedSigns(120, 120);
        Road y = new Road().does("limit", 11, 40).does("pass", 1).does("limit", 11, NONE).does("pass", 2);
        y.lastSpeedSigns(60, 40).does("pass", 1).lastSpeedSigns(120, 120);
        Road z = believing(0).does("pass", 5).does("detector", 11, STUCK, 59).does("pass", 1).lastSpeedSigns(80, 60);
        z.does("detector", 11, STUCK, 79).does("pass", 1).lastSpeedSigns(100, 80);
    }

    private static void staysAnewWhenLoweredAgain() {
        Check.says(STAYS);
        Road x = new Road().does("weather", RedcrossGantry.WIND).does("pass", 1).does("weather", RedcrossGantry.FOG);
        x.does("pass", 1).lastSpeedSigns(60, 60).does("weather", RedcrossGantry.ICE).does("pass", 1).lastSpeedSigns(40, 40);
        x.does("weather", RedcrossGantry.WIND).does("pass", 2).lastSpeedSigns(40, 40).does("pass", 1).lastSpeedSigns(80, 80);
        // It is as low as it was: that makes it no lower.
        Road y = new Road().does("weather", RedcrossGantry.ICE).does("pass", 3).does("weather", RedcrossGantry.WIND);
        y.does("pass", 1).lastSpeedSigns(80, 80);
    }

    private static void staysAfterACap() {
        Check.says(STAYS);
        Road x = new Road().does("limit", 11, 40).does("pass", 1).does("limit", 11, 120).does("pass", 1);
        x.lastSpeedSigns(120, 120, 100, 80, 60, 120).does("pass", 1).lastSpeedSigns(120, 120, 100, 80, 60, 120);
        x.does("pass", 1).lastSpeedSigns(120, 120, 120, 120, 120, 120);
    }

    private static void staysNotAfterARise() {
        Check.says(STAYS);
        Road x = new Road().does("weather", RedcrossGantry.ICE).does("pass", 4).does("weather", RedcrossGantry.FOG);
        x.does("pass", 1).lastSpeedSigns(60, 60).does("weather", RedcrossGantry.WIND).does("pass", 1).lastSpeedSigns(80, 80);
        x.does("weather", RedcrossGantry.CLEAR).does("pass", 1).lastSpeedSigns(120, 120);
    }

    private static void staysNotByHand() {
        Check.says(STAYS);
        Road x = new Road().does("weather", RedcrossGantry.ICE).does("pass", 1).does("limit", 11, 60).does("pass", 1);
        x.lastSpeedSigns(40, 60).does("limit", 11, 100).does("pass", 1).lastSpeedSigns(40, 100);
        Road y = new Road().does("limit", 11, 40).does("pass", 1).does("limit", 11, 80).does("pass", 1);
        y.lastSpeedSigns(60, 80);
    }

    private static void staysAfterAHandThatRaisedIt() {
        Check.says(STAYS);
        Road x = new Road().does("limit", 11, 40).does("pass", 1).does("limit", 11, 100).does("pass", 1);
        x.lastSpeedSigns(60, 100).does("limit", 11, NONE).does("pass", 1).lastSpeedSigns(60, 100);
        x.does("pass", 1).lastSpeedSigns(120, 120);
    }

    private static void lowerAtOnce() {
        Check.says(STAYS);
        Road x = new Road().does("weather", RedcrossGantry.FOG).does("pass", 1).lastSpeedSigns(60, 60);
        x.does("weather", RedcrossGantry.ICE).does("pass", 1).lastSpeedSigns(40, 40);
    }

    private static void fromTheLastDownToTheFirst() {
        Check.says("To set them anew: for each SECTION, from 11 down to 0");
        Road x = new Road().does("limit", 4, 40).does("pass", 1).due(40, "section", 4, 3).due(60, "section", 3, 3);
        x.due(80, "section", 2, 3).due(100, "section", 1, 3).due(120, "section", 0, 3).due(120, "section", 5, 3);
        x.does("limit", 4, 120).does("limit", 3, 120).does("limit", 2, 120).does("pass", 1).due(120, "section", 4, 3);
        x.due(120, "section", 3, 3).due(120, "section", 2, 3).due(100, "section", 1, 3);
    }

    private static void twentyAboveTheNext() {
        Check.says(CAP);
        Road x = new Road().does("limit", 5, 40).does("pass", 1);
        x.lastSpeedSigns(120, 120, 100, 80, 60, 40, 120, 120, 120, 120, 120, 120).due(1, "isLawful");
        Road y = new Road().does("limit", 1, 60).does("pass", 1).due(80, "section", 0, 3);
        new Road().does("limit", 1, 100).does("pass", 1).due(120, "section", 0, 3);
        // The next one rises in the same minute: it is that one that counts.
        y.does("limit", 1, 120).does("limit", 0, 120).does("pass", 1).due(120, "section", 0, 3);
    }

    private static void twentyAboveByHand() {
        Check.says(CAP);
        Road x = new Road().does("limit", 11, 40).does("limit", 10, 120).does("limit", 9, 100).does("limit", 8, 40);
        x.does("pass", 1).lastSpeedSigns(60, 40, 80, 60, 40).due(120, "limit", 10, NONE);
        Road y = new Road().does("limit", 11, 40).does("limit", 10, 60).does("pass", 1).lastSpeedSigns(80, 60, 40);
        Road z = new Road().does("limit", 11, 40).does("limit", 10, 80).does("pass", 1).lastSpeedSigns(80, 60, 40);
        z.does("limit", 11, 60).does("pass", 1).lastSpeedSigns(80, 80, 60);
    }

    private static void whatStaysIsCappedToo() {
        Check.says(CAP);
        Road x = new Road().does("limit", 10, 100).does("pass", 1).does("limit", 10, NONE).does("limit", 11, 60);
        x.does("pass", 1).lastSpeedSigns(100, 80, 60).does("limit", 11, 120).does("pass", 2).lastSpeedSigns(100, 80, 120);
        x.does("pass", 1).lastSpeedSigns(120, 120, 120);
    }

    private static void theLastOneHasNoNext() {
        Check.says(CAP);
        new Road().does("limit", 0, 40).does("pass", 1).due(120, "section", 11, 3).due(120, "section", 1, 3);
        new Road().does("weather", RedcrossGantry.ICE).does("limit", 11, 120).does("pass", 1).lastSpeedSigns(40, 120);
    }

    private static void withTheNextMinute() {
        Check.says("Tells the weather; the SPEED SIGNS are set anew with the next minute.");
        new Road().does("weather", RedcrossGantry.ICE).lastSpeedSigns(120, 120).does("pass", 1).lastSpeedSigns(40, 40);
        new Road().does("weather", RedcrossGantry.ICE).does("weather", RedcrossGantry.CLEAR).does("pass", 1)
                .lastSpeedSigns(120, 120);
        Check.says("Orders a limit by hand, or takes it back; the SPEED SIGNS are set anew with the next minute.");
        new Road().does("limit", 11, 60).lastSpeedSigns(120, 120).does("pass", 1).lastSpeedSigns(80, 60);
        new Road().does("limit", 11, 60).does("limit", 11, NONE).does("pass", 1).lastSpeedSigns(120, 120);
        new Road().does("limit", 11, 60).does("pass", 9).lastSpeedSigns(80, 60).does("limit", 11, NONE).does("pass", 1)
                .lastSpeedSigns(120, 120);
    }

    private static void weatherAnswersWhatItWas() {
        Check.says("`weather`: CLEAR to ICE");
        Road x = new Road().due(0, "weather", 3).due(3, "weather", 3).due(3, "weather", 1).argument("weather", 4);
        x.argument("weather", -1).due(1, "weather", 2).due(2, "weather", 0).due(0, "weather", 0);
    }

    private static void limitsAnswerWhatTheyWere() {
        Check.says("Returns the limit that was ordered; NONE without one.");
        Road x = new Road().due(NONE, "limit", 0, NONE).due(NONE, "limit", 0, 40).due(NONE, "limit", 11, 120);
        x.due(40, "limit", 0, 120).does("pass", 1).due(120, "limit", 0, NONE).due(NONE, "limit", 0, NONE);
        x.argument("limit", 11, 0).due(120, "limit", 11, 100).due(NONE, "limit", 10, NONE).due(100, "limit", 11, NONE);
    }
}
