import java.util.function.IntUnaryOperator;

/** The sentences of the chapter "Works, proofs" that name a boundary, each in a test of its own. */
public final class WorksProofSentencesTest {
    private static final int NONE = RedcrossGantry.NONE;
    private static final int OPEN = RedcrossGantry.OPEN;
    private static final int LEAVE = RedcrossGantry.LEAVE;
    private static final int CROSS = RedcrossGantry.CROSS;
    private static final String NUMBERED = "WORKS are numbered from 0, at most 8: of a LANE, 1 to 3, from a SECTION to another "
            + "one, from a minute on, up to another one, that one not with it.";
    private static final String ALL_THREE = "They cannot be booked, if at some minute, in some SECTION, all three LANES 1 to 3 "
            + "would have WORKS.";
    private static final String KEPT = "The latest 60 minutes are kept, that of now with them (the minute 0 is kept at first, "
            + "with the SPEED SIGNS and LANE SIGNS as they are at first): of each the SPEED SIGNS and LANE SIGNS as they were "
            + "when it had come; what is ordered in it counts from the next one on.";
    private static final String FINED = "it is 10 or more above the SPEED SIGN that was shown";

    private WorksProofSentencesTest() {
    }

    public static void main(String[] args) {
        noneAtFirst();
        eightAtMost();
        theEighthIsLikeTheOthers();
        thoseThatAreOverCountToo();
        eachLane();
        fromASectionToAnother();
        fromAMinuteUpToAnother();
        forOneMinute();
        onFromTheMinuteOfNow();
        beginsFromNowOn();
        endsAboveItsBegin();
        toTheLastMinute();
        worksOutOfRange();
        onNow();
        allThreeLanesInOneMinute();
        allThreeLanesInOneSection();
        allThreeLanesOfMany();
        twoLanesOnly();
        pairsThatMeet();
        overIsOver();
        keptAtFirst();
        sixtyMinutes();
        eachOfThemIsKept();
        keptToTheEnd();
        whatIsOrderedInIt();
        minutesBelowZero();
        minutesToCome();
        finedByTen();
        finedAtItsEnds();
        finedByWhatWasShown();
        Check.end();
    }

    private static void noneAtFirst() {
        Check.says(NUMBERED);
        new Road().index("isOn", 0).index("isOn", -1).due(0, "works", 1, 1, 11, 0, 600).due(1, "isOn", 0).index("isOn", 1);
    }

    private static void eightAtMost() {
        Check.says(NUMBERED);
        Road x = new Road();
        for (int number = 0; number < 8; number++) {
            x.index("isOn", number).due(number, "works", 1 + number % 2, 1 + number, 2 + number, number, 600);
        }
        x.state("works", 1, 1, 1, 0, 1).index("isOn", 8).due(1, "isOn", 0).due(0, "isOn", 7).does("pass", 7).due(1, "isOn", 7);
    }

    private static void theEighthIsLikeTheOthers() {
        Check.says(NUMBERED);
        Road x = new Road();
        for (int number = 0; number < 7; number++) {
            x.does("works", 1, 5, 5, 0, 1);
        }
        x.due(7, "works", 3, 11, 11, 1, 2).due(OPEN, "sign", 11, 3).does("pass", 1).laneSigns(3, 10, LEAVE, CROSS);
        x.does("pass", 1).laneSigns(3, 10, OPEN, OPEN).due(0, "isOn", 7);
        Road y = new Road().does("works", 3, 6, 6, 0, 9);
        for (int number = 1; number < 6; number++) {
            y.does("works", 1, 5, 5, 0, 1);
        }
        y.does("works", 1, 6, 6, 8, 9).state("works", 2, 6, 6, 8, 9).due(7, "works", 2, 6, 6, 7, 8);
    }

    private static void thoseThatAreOverCountToo() {
        Check.says("IllegalStateException` if there are 8, or they cannot be booked");
        Road x = new Road();
        for (int number = 0; number < 8; number++) {
            x.due(number, "works", 2, 5, 5, 0, 1);
        }
        x.does("pass", 30).state("works", 2, 5, 5, 30, 31).due(0, "isOn", 7).due(OPEN, "sign", 5, 2);
    }

    private static void eachLane() {
        Check.says(NUMBERED);
        for (int lane = 1; lane <= 3; lane++) {
            Road x = new Road().does("works", lane, 5, 5, 0, 9);
            for (int other = 1; other <= 3; other++) {
                x.due(other == lane ? CROSS : OPEN, "sign", 5, other);
            }
            x.index("works", 0, 5, 5, 0, 9).index("works", 4, 5, 5, 0, 9);
        }
    }

    private static void fromASectionToAnother() {
        Check.says(NUMBERED);
        new Road().does("works", 2, 1, 11, 0, 9).laneSigns(2, 0, LEAVE, CROSS, CROSS).laneSigns(2, 9, CROSS, CROSS, CROSS);
        new Road().does("works", 2, 4, 6, 0, 9).laneSigns(2, 2, OPEN, LEAVE, CROSS, CROSS, CROSS, OPEN);
        new Road().does("works", 2, 11, 11, 0, 9).laneSigns(2, 9, OPEN, LEAVE, CROSS);
        new Road().does("works", 2, 1, 1, 0, 9).laneSigns(2, 0, LEAVE, CROSS, OPEN);
    }

    private static void fromAMinuteUpToAnother() {
        Check.says(NUMBERED);
        Road x = new Road().does("works", 3, 7, 8, 2, 4).due(0, "isOn", 0).due(OPEN, "sign", 7, 3).does("pass", 1);
        x.due(0, "isOn", 0).does("pass", 1).due(1, "isOn", 0).laneSigns(3, 6, LEAVE, CROSS, CROSS, OPEN).does("pass", 1);
        x.due(1, "isOn", 0).due(CROSS, "sign", 8, 3).does("pass", 1).due(0, "isOn", 0).laneSigns(3, 6, OPEN, OPEN, OPEN);
        x.due(OPEN, "proof", 1, 7, 4).due(CROSS, "proof", 2, 7, 4).due(CROSS, "proof", 3, 7, 4).due(OPEN, "proof", 4, 7, 4);
    }

    private static void forOneMinute() {
        Check.says("`end`: above begin, to 600");
        Road x = new Road().does("works", 1, 5, 5, 1, 2).argument("works", 1, 5, 5, 1, 1).does("pass", 1).due(1, "isOn", 0);
        x.does("pass", 1).due(0, "isOn", 0);
    }

    private static void onFromTheMinuteOfNow() {
        Check.says("`begin`: the minute of now, to 599");
        Road x = new Road().does("pass", 5).does("works", 1, 5, 5, 5, 6).due(1, "isOn", 0).due(CROSS, "sign", 5, 1);
        x.due(OPEN, "proof", 5, 5, 2).does("pass", 1).due(0, "isOn", 0).due(OPEN, "proof", 6, 5, 2);
    }

    private static void beginsFromNowOn() {
        Check.says("`begin`: the minute of now, to 599");
        Road x = new Road().argument("works", 1, 5, 5, -1, 9).does("pass", 5).argument("works", 1, 5, 5, 4, 9);
        x.argument("works", 1, 5, 5, 0, 9).does("works", 1, 5, 5, 5, 9).argument("works", 1, 5, 5, 600, 601);
        x.argument("works", 1, 5, 5, 600, 600).does("works", 1, 5, 5, 599, 600);
    }

    private static void endsAboveItsBegin() {
        Check.says("`end`: above begin, to 600");
        Road x = new Road().argument("works", 1, 5, 5, 9, 9).argument("works", 1, 5, 5, 9, 8).does("works", 1, 5, 5, 9, 10);
        x.argument("works", 1, 5, 5, 9, 601).does("works", 1, 5, 5, 9, 600).argument("works", 1, 5, 5, 0, 0);
    }

    private static Road at(int minute) {
        Road x = new Road();
        for (int now = 60; now <= minute; now += 60) {
            x.does("pass", 60);
        }
        return minute % 60 == 0 ? x : x.does("pass", minute % 60);
    }

    private static void toTheLastMinute() {
        Check.says("`begin`: the minute of now, to 599");
        Road x = at(599).does("works", 1, 5, 5, 599, 600).due(1, "isOn", 0).does("pass", 1).due(0, "isOn", 0);
        x.argument("works", 1, 5, 5, 600, 600).argument("works", 1, 5, 5, 599, 600).argument("works", 1, 5, 5, 600, 601);
    }

    private static void worksOutOfRange() {
        Check.says("Throws `IllegalArgumentException` if to is ahead of from, or begin or end is out of range");
        Road x = new Road().does("pass", 2).argument("works", 1, 2, 1, 2, 3).argument("works", 1, 1, 2, 1, 3);
        x.argument("works", 1, 1, 2, 600, 600).argument("works", 1, 1, 2, 2, 2).argument("works", 1, 1, 2, 2, 601);
        x.index("isOn", 0).due(0, "works", 1, 1, 2, 2, 3).due(1, "works", 1, 2, 2, 599, 600);
    }

    private static void onNow() {
        Check.says("Tells whether WORKS are on now.");
        Road x = new Road().does("works", 1, 1, 2, 0, 2).does("works", 1, 1, 2, 2, 3).does("order", 1, 1, OPEN);
        x.due(1, "isOn", 0).due(0, "isOn", 1).does("pass", 1).due(1, "isOn", 0).due(0, "isOn", 1).does("pass", 1);
        x.due(0, "isOn", 0).due(1, "isOn", 1).does("pass", 1).due(0, "isOn", 0).due(0, "isOn", 1).index("isOn", 2);
    }

    private static void allThreeLanesInOneMinute() {
        Check.says(ALL_THREE);
        Road x = new Road().does("works", 1, 3, 5, 10, 20).does("works", 2, 3, 5, 10, 20);
        x.state("works", 3, 4, 4, 19, 20).state("works", 3, 4, 4, 10, 11).state("works", 3, 4, 4, 0, 600);
        x.state("works", 3, 4, 4, 19, 21).state("works", 3, 4, 4, 9, 11).state("works", 3, 4, 4, 14, 15);
        x.due(2, "works", 3, 4, 4, 0, 10).due(3, "works", 3, 4, 4, 20, 600);
    }

    private static void allThreeLanesInOneSection() {
        Check.says(ALL_THREE);
        Road x = new Road().does("works", 3, 3, 5, 10, 20).does("works", 1, 3, 5, 10, 20);
        x.state("works", 2, 3, 3, 10, 20).state("works", 2, 5, 5, 10, 20).state("works", 2, 4, 4, 10, 20);
        x.state("works", 2, 1, 3, 10, 20).state("works", 2, 5, 11, 10, 20).state("works", 2, 1, 11, 10, 20);
        x.due(2, "works", 2, 1, 2, 10, 20).due(3, "works", 2, 6, 11, 10, 20);
        Road y = new Road().does("works", 3, 1, 1, 0, 9).does("works", 2, 1, 1, 0, 9).state("works", 1, 1, 1, 0, 9);
        Road z = new Road().does("works", 3, 11, 11, 0, 9).does("works", 2, 11, 11, 0, 9).state("works", 1, 11, 11, 0, 9);
    }

    private static void allThreeLanesOfMany() {
        Check.says(ALL_THREE);
        Road x = new Road().does("works", 1, 1, 2, 0, 5).does("works", 1, 4, 6, 0, 50).does("works", 2, 8, 11, 0, 50);
        x.does("works", 2, 6, 6, 49, 60).does("works", 2, 1, 1, 5, 9).due(5, "works", 3, 1, 5, 0, 600);
        x.due(6, "works", 3, 6, 11, 50, 600).state("works", 3, 6, 6, 49, 50).state("works", 1, 6, 6, 50, 51);
        x.due(7, "works", 1, 11, 11, 40, 51);
    }

    private static void twoLanesOnly() {
        Check.says(ALL_THREE);
        Road x = new Road();
        for (int number = 0; number < 8; number++) {
            x.due(number, "works", 1 + number % 2 * 2, 1, 11, 0, 600);
        }
        x.due(CROSS, "sign", 6, 1).due(OPEN, "sign", 6, 2).due(CROSS, "sign", 6, 3);
    }

    private static void pairsThatMeet() {
        Check.says(ALL_THREE);
        Road x = new Road().does("works", 1, 1, 4, 0, 10).does("works", 2, 1, 4, 10, 20).due(2, "works", 3, 1, 4, 0, 20);
        Road y = new Road().does("works", 1, 1, 2, 0, 20).does("works", 2, 3, 4, 0, 20).due(2, "works", 3, 1, 4, 0, 20);
        Road z = new Road().does("works", 1, 1, 2, 0, 20).does("works", 2, 2, 3, 10, 30).state("works", 3, 1, 3, 0, 30);
        z.due(2, "works", 3, 1, 1, 0, 30).due(3, "works", 3, 3, 3, 0, 30).due(4, "works", 3, 2, 2, 0, 10);
        z.due(5, "works", 3, 2, 2, 20, 30).state("works", 3, 2, 2, 19, 20);
    }

    private static void overIsOver() {
        Check.says(ALL_THREE);
        Road x = new Road().does("works", 1, 4, 4, 0, 9).does("works", 2, 4, 4, 0, 12).does("pass", 8);
        x.state("works", 3, 4, 4, 8, 9).does("pass", 1).due(2, "works", 3, 4, 4, 9, 30).state("works", 1, 4, 4, 11, 12);
        x.due(3, "works", 1, 4, 4, 12, 13).due(0, "isOn", 0).due(1, "isOn", 1).due(1, "isOn", 2).due(0, "isOn", 3);
    }

    private static void keptAtFirst() {
        Check.says(KEPT);
        Road x = new Road().does("order", 5, 1, CROSS).does("limit", 5, 40).does("look", 5).does("openShoulder", 5, 5);
        x.does("works", 2, 5, 5, 0, 9);
        for (int section = 0; section < 12; section++) {
            x.due(120, "proof", 0, section, 0).due(CROSS, "proof", 0, section, 1).due(OPEN, "proof", 0, section, 2);
            x.due(OPEN, "proof", 0, section, 3).due(OPEN, "proof", 0, section, 4);
        }
        x.state("proof", 1, 5, 0).does("pass", 1).due(40, "proof", 1, 5, 0).due(LEAVE, "proof", 1, 5, 1);
        x.due(CROSS, "proof", 1, 5, 2).due(CROSS, "proof", 1, 5, 3).due(OPEN, "proof", 1, 5, 4).due(LEAVE, "proof", 1, 4, 2);
    }

    private static void sixtyMinutes() {
        Check.says(KEPT);
        Road x = new Road().does("limit", 11, 40).does("pass", 59).due(120, "proof", 0, 11, 0).due(40, "proof", 59, 11, 0);
        x.due(0, "isFined", 0, 11, 129).does("pass", 1).state("proof", 0, 11, 0).state("isFined", 0, 11, 129);
        x.due(40, "proof", 1, 11, 0).due(1, "isFined", 1, 11, 129).due(40, "proof", 60, 11, 0).state("proof", 61, 11, 0);
        x.does("pass", 60).state("proof", 60, 11, 0).due(40, "proof", 61, 11, 0).due(40, "proof", 120, 11, 0);
        x.state("isFined", 60, 11, 50).due(1, "isFined", 61, 11, 50).state("isFined", 121, 11, 50);
    }

    private static void eachOfThemIsKept() {
        Check.says(KEPT);
        // The signs of the section 11 in each minute, by a turn of five limits and of three orders.
        IntUnaryOperator limit = minute -> 40 + 20 * (minute % 5);
        IntUnaryOperator order = minute -> minute / 5 % 3;
        Road x = new Road();
        for (int minute = 1; minute <= 130; minute++) {
            x.does("limit", 11, limit.applyAsInt(minute)).does("order", 11, 3, order.applyAsInt(minute)).does("pass", 1);
        }
        for (int minute = 71; minute <= 130; minute++) {
            x.due(limit.applyAsInt(minute), "proof", minute, 11, 0).due(order.applyAsInt(minute), "proof", minute, 11, 4);
        }
    }

    private static void keptToTheEnd() {
        Check.says(KEPT);
        Road x = at(570).does("limit", 11, 60).does("pass", 30).state("proof", 540, 11, 0).due(120, "proof", 541, 11, 0);
        x.due(120, "proof", 570, 11, 0).due(60, "proof", 571, 11, 0).due(60, "proof", 600, 11, 0).state("pass", 1);
    }

    private static void whatIsOrderedInIt() {
        Check.says(KEPT);
        Road x = new Road().does("pass", 3).does("order", 6, 1, CROSS).does("limit", 6, 60).due(CROSS, "sign", 6, 1);
        x.due(OPEN, "proof", 3, 6, 2).due(OPEN, "proof", 3, 5, 2).due(120, "proof", 3, 6, 0).due(0, "isFined", 3, 6, 100);
        x.does("pass", 1).due(CROSS, "proof", 4, 6, 2).due(LEAVE, "proof", 4, 5, 2).due(60, "proof", 4, 6, 0);
        x.does("order", 6, 1, NONE).does("limit", 6, 40).due(CROSS, "proof", 4, 6, 2).due(60, "proof", 4, 6, 0);
        x.confirmed(0, 8, 2).due(OPEN, "proof", 4, 8, 3).does("look", 2).does("openShoulder", 2, 2);
        x.due(CROSS, "proof", 4, 2, 1).does("pass", 1).due(LEAVE, "proof", 5, 2, 1).due(CROSS, "proof", 5, 8, 3);
    }

    private static void minutesBelowZero() {
        Check.says("IllegalArgumentException` as told, or if minute is below 0");
        Road x = new Road().argument("proof", -1, 0, 0).argument("isFined", -1, 0, 0).does("pass", 3);
        x.argument("proof", -1, 0, 0).argument("isFined", -1, 11, 250).due(120, "proof", 0, 0, 0);
    }

    private static void minutesToCome() {
        Check.says("IllegalStateException` if that minute is not kept");
        Road x = new Road().state("proof", 1, 0, 0).state("isFined", 1, 0, 0).does("pass", 9).state("proof", 10, 11, 4);
        x.due(120, "proof", 9, 0, 0).state("isFined", 10, 11, 0).state("proof", 600, 0, 0).state("proof", 601, 0, 0);
        x.state("proof", Integer.MAX_VALUE, 0, 0).state("isFined", Integer.MAX_VALUE, 0, 0);
        at(600).state("proof", 540, 0, 0).due(120, "proof", 541, 0, 0).due(120, "proof", 600, 0, 0).state("proof", 601, 0, 0);
    }

    private static void finedByTen() {
        Check.says(FINED);
        for (int sign = 40; sign <= 120; sign += 20) {
            Road x = new Road().does("limit", 11, sign).does("pass", 1).due(0, "isFined", 1, 11, sign);
            x.due(0, "isFined", 1, 11, sign + 9).due(1, "isFined", 1, 11, sign + 10).due(1, "isFined", 1, 11, sign + 11);
        }
    }

    private static void finedAtItsEnds() {
        Check.says("`speed`: 0 to 250");
        Road x = new Road().due(0, "isFined", 0, 0, 0).due(1, "isFined", 0, 0, 250).argument("isFined", 0, 0, 251);
        x.argument("isFined", 0, 0, -1).due(0, "isFined", 0, 11, 129).due(1, "isFined", 0, 11, 130);
    }

    private static void finedByWhatWasShown() {
        Check.says(FINED);
        Road x = new Road().does("limit", 11, 60).does("pass", 1).does("limit", 11, 100).due(1, "isFined", 1, 11, 70);
        x.does("pass", 1).due(1, "isFined", 1, 11, 70).due(0, "isFined", 2, 11, 109).due(1, "isFined", 2, 11, 110);
        x.due(0, "isFined", 0, 11, 129).due(0, "isFined", 1, 9, 109).due(1, "isFined", 1, 10, 90);
    }
}
