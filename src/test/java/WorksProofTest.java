/** Promises 24 to 27: works, isOn, proof, isFined. */
public final class WorksProofTest {
    private static final int OPEN = RedcrossGantry.OPEN;
    private static final int LEAVE = RedcrossGantry.LEAVE;
    private static final int CROSS = RedcrossGantry.CROSS;

    private WorksProofTest() {
    }

    public static void main(String[] args) {
        worksAnswers();
        worksInMinutes();
        eightWorks();
        allThreeLanes();
        threeThatNeverMeet();
        worksComeOnAndGoOff();
        proofAnswers();
        sixtyMinutesAreKept();
        ordersCountFromTheNextMinute();
        fines();
        Check.end();
    }

    private static void worksAnswers() {
        RedcrossGantry x = new RedcrossGantry();
        Check.index("lane 0", () -> x.works(0, 1, 2, 0, 5));
        Check.index("lane -1", () -> x.works(-1, 1, 2, 0, 5));
        Check.index("lane 4", () -> x.works(4, 2, 1, 0, 5));
        Check.index("from 0", () -> x.works(1, 0, 2, 0, 5));
        Check.index("from -1", () -> x.works(1, -1, 2, 0, 5));
        Check.index("from 12", () -> x.works(1, 12, 12, 0, 5));
        Check.index("to 12", () -> x.works(1, 11, 12, 9, 5));
        Check.index("to 0", () -> x.works(1, 3, 0, 0, 5));
        Check.index("to -1", () -> x.works(1, 3, -1, 0, 5));
        Check.argument("to ahead of from", () -> x.works(1, 3, 2, 0, 5));
        Check.due("lane 1", 0, () -> x.works(1, 1, 1, 0, 600));
        Check.due("lane 3", 1, () -> x.works(3, 11, 11, 599, 600));
    }

    private static void worksInMinutes() {
        RedcrossGantry x = new RedcrossGantry();
        Check.argument("begin -1", () -> x.works(1, 1, 1, -1, 5));
        Check.argument("begin 600", () -> x.works(1, 1, 1, 600, 601));
        Check.argument("end as begin", () -> x.works(1, 1, 1, 5, 5));
        Check.argument("end ahead of begin", () -> x.works(1, 1, 1, 5, 4));
        Check.argument("end 601", () -> x.works(1, 1, 1, 5, 601));
        Check.argument("end MAX", () -> x.works(1, 1, 1, 5, Integer.MAX_VALUE));
        x.pass(10);
        Check.argument("begin in the past", () -> x.works(1, 1, 1, 9, 20));
        Check.due("begin now", 0, () -> x.works(1, 1, 1, 10, 11));
    }

    private static void eightWorks() {
        RedcrossGantry x = new RedcrossGantry();
        for (int i = 0; i < 8; i++) {
            int number = i;
            Check.due("works", number, () -> x.works(2, 5, 6, 0, 10));
        }
        Check.state("there are 8", () -> x.works(2, 5, 6, 0, 10));
        x.pass(20);
        Check.state("those that are over count too", () -> x.works(2, 5, 6, 20, 30));
        Check.argument("there are 8, and begin is past", () -> x.works(2, 5, 6, 0, 10));
        Check.index("there is no 9th", () -> Check.bit(x.isOn(8)));
        Check.due("the 8th", 0, () -> Check.bit(x.isOn(7)));
        RedcrossGantry y = new RedcrossGantry();
        for (int i = 0; i < 6; i++) {
            y.works(1, 5, 6, 0, 10);
        }
        y.works(2, 6, 11, 0, 10);
        Check.state("the 8th would take the last lane", () -> y.works(3, 6, 6, 9, 10));
        Check.due("the 8th", 7, () -> y.works(3, 7, 11, 0, 10));
        Check.due("the 8th is on", 1, () -> Check.bit(y.isOn(7)));
        Check.due("the 8th at the end", CROSS, () -> y.sign(11, 3));
        Check.due("ahead of the 8th", LEAVE, () -> y.sign(6, 3));
    }

    private static void allThreeLanes() {
        RedcrossGantry x = new RedcrossGantry();
        x.works(1, 3, 5, 10, 20);
        x.works(2, 5, 8, 19, 30);
        Check.state("one section, one minute", () -> x.works(3, 5, 5, 19, 20));
        Check.state("all of them", () -> x.works(3, 1, 11, 0, 600));
        Check.state("the last one of them", () -> x.works(3, 2, 5, 0, 20));
        Check.state("the first one of them", () -> x.works(3, 5, 11, 19, 40));
        Check.due("ahead of the minute", 2, () -> x.works(3, 1, 11, 0, 19));
        Check.due("behind the minute", 3, () -> x.works(3, 1, 11, 20, 600));
        Check.due("ahead of the section", 4, () -> x.works(3, 1, 4, 0, 600));
        Check.due("behind the section", 5, () -> x.works(3, 6, 11, 0, 600));
        Check.state("now another lane", () -> x.works(1, 7, 7, 22, 23));
        Check.due("the same lane", 6, () -> x.works(2, 5, 8, 19, 30));
    }

    private static void threeThatNeverMeet() {
        RedcrossGantry x = new RedcrossGantry();
        x.works(1, 1, 4, 0, 10);
        x.works(2, 1, 4, 10, 20);
        Check.due("each pair meets, but not all three", 2, () -> x.works(3, 1, 4, 0, 20));
        RedcrossGantry y = new RedcrossGantry();
        y.works(2, 1, 2, 0, 20);
        y.works(3, 3, 4, 0, 20);
        Check.due("other sections", 2, () -> y.works(1, 1, 4, 0, 20));
        y.works(3, 6, 6, 5, 6);
        y.works(1, 6, 6, 5, 6);
        Check.state("booked later", () -> y.works(2, 5, 7, 0, 20));
        Check.due("none are on by a call that throws", OPEN, () -> y.sign(5, 2));
        Check.due("a call that throws books nothing", 5, () -> y.works(2, 5, 5, 0, 20));
    }

    private static void worksComeOnAndGoOff() {
        RedcrossGantry x = new RedcrossGantry();
        Check.index("isOn(0) without one", () -> Check.bit(x.isOn(0)));
        x.works(2, 4, 5, 2, 4);
        x.works(3, 1, 1, 0, 1);
        Check.index("isOn(-1)", () -> Check.bit(x.isOn(-1)));
        Check.index("isOn(2)", () -> Check.bit(x.isOn(2)));
        int[] first = {0, 0, 1, 1, 0, 0};
        for (int minute = 0; minute < first.length; minute++) {
            int on = first[minute];
            Check.due("isOn(0) at " + minute, on, () -> Check.bit(x.isOn(0)));
            Check.due("isOn(1) at " + minute, minute == 0 ? 1 : 0, () -> Check.bit(x.isOn(1)));
            Check.due("the lane at " + minute, on == 1 ? CROSS : OPEN, () -> x.sign(4, 2));
            Check.due("its end at " + minute, on == 1 ? CROSS : OPEN, () -> x.sign(5, 2));
            Check.due("ahead of it at " + minute, on == 1 ? LEAVE : OPEN, () -> x.sign(3, 2));
            Check.due("behind it at " + minute, OPEN, () -> x.sign(6, 2));
            x.pass(1);
        }
        Check.due("kept on", CROSS, () -> x.proof(2, 4, 3));
        Check.due("kept off", OPEN, () -> x.proof(4, 4, 3));
    }

    private static void proofAnswers() {
        RedcrossGantry x = new RedcrossGantry();
        Check.index("proof(-1, 12, 9)", () -> x.proof(-1, 12, 9));
        Check.index("proof(0, -1, 0)", () -> x.proof(0, -1, 0));
        Check.argument("proof(-1, 0, 0)", () -> x.proof(-1, 0, 0));
        Check.argument("proof(MIN, 0, 0)", () -> x.proof(Integer.MIN_VALUE, 0, 0));
        Check.argument("proof(0, 0, -1)", () -> x.proof(0, 0, -1));
        Check.argument("proof(99, 0, 5)", () -> x.proof(99, 0, 5));
        Check.state("proof(1, 0, 0)", () -> x.proof(1, 0, 0));
        Check.state("proof(MAX, 11, 4)", () -> x.proof(Integer.MAX_VALUE, 11, 4));
        x.order(4, 0, OPEN);
        x.order(4, 1, LEAVE);
        x.order(4, 2, CROSS);
        x.limit(4, 100);
        x.pass(1);
        int[] due = {100, LEAVE, LEAVE, CROSS, OPEN};
        for (int what = 0; what < due.length; what++) {
            int w = what;
            Check.due("proof " + w, due[w], () -> x.proof(1, 4, w));
        }
        Check.due("the lane ahead", LEAVE, () -> x.proof(1, 3, 3));
    }

    private static void sixtyMinutesAreKept() {
        RedcrossGantry x = new RedcrossGantry();
        x.weather(RedcrossGantry.WIND);
        x.pass(59);
        Check.due("the minute 0 at 59", 120, () -> x.proof(0, 5, 0));
        x.pass(1);
        Check.state("the minute 0 at 60", () -> x.proof(0, 5, 0));
        Check.due("the minute 1 at 60", 80, () -> x.proof(1, 5, 0));
        x.weather(RedcrossGantry.ICE);
        x.pass(40);
        Check.state("the minute 40 at 100", () -> x.proof(40, 5, 0));
        Check.due("the minute 41 at 100", 80, () -> x.proof(41, 5, 0));
        Check.due("the minute 60 at 100", 80, () -> x.proof(60, 5, 0));
        Check.due("the minute 61 at 100", 40, () -> x.proof(61, 5, 0));
        Check.due("the minute 100 at 100", 40, () -> x.proof(100, 5, 0));
        Check.state("the minute 101 at 100", () -> x.proof(101, 5, 0));
    }

    private static void ordersCountFromTheNextMinute() {
        RedcrossGantry x = new RedcrossGantry();
        x.pass(3);
        x.order(6, 1, CROSS);
        x.limit(6, 60);
        Check.due("the sign of now", CROSS, () -> x.sign(6, 1));
        Check.due("the proof of now", OPEN, () -> x.proof(3, 6, 2));
        x.pass(1);
        x.order(6, 1, RedcrossGantry.NONE);
        Check.due("the proof of the next minute", CROSS, () -> x.proof(4, 6, 2));
        Check.due("the speed sign then", 60, () -> x.proof(4, 6, 0));
        Check.due("the speed sign before", 120, () -> x.proof(3, 6, 0));
        Check.due("the lane sign before", OPEN, () -> x.proof(3, 6, 2));
    }

    private static void fines() {
        RedcrossGantry x = new RedcrossGantry();
        Check.index("isFined(-1, 12, 999)", () -> Check.bit(x.isFined(-1, 12, 999)));
        Check.index("isFined(0, -1, 50)", () -> Check.bit(x.isFined(0, -1, 50)));
        Check.argument("isFined(-1, 0, 50)", () -> Check.bit(x.isFined(-1, 0, 50)));
        Check.argument("isFined(0, 0, -1)", () -> Check.bit(x.isFined(0, 0, -1)));
        Check.argument("isFined(9, 0, 251)", () -> Check.bit(x.isFined(9, 0, 251)));
        Check.state("isFined(1, 0, 250)", () -> Check.bit(x.isFined(1, 0, 250)));
        Check.due("0", 0, () -> Check.bit(x.isFined(0, 0, 0)));
        Check.due("250", 1, () -> Check.bit(x.isFined(0, 0, 250)));
        Check.due("129 at 120", 0, () -> Check.bit(x.isFined(0, 0, 129)));
        Check.due("130 at 120", 1, () -> Check.bit(x.isFined(0, 0, 130)));
        x.limit(11, 60);
        x.pass(1);
        Check.due("69 at 60", 0, () -> Check.bit(x.isFined(1, 11, 69)));
        Check.due("70 at 60", 1, () -> Check.bit(x.isFined(1, 11, 70)));
        Check.due("70 a minute before", 0, () -> Check.bit(x.isFined(0, 11, 70)));
        x.pass(60);
        Check.state("no longer kept", () -> Check.bit(x.isFined(1, 11, 70)));
    }
}
