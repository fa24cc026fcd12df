/** Promises 10 to 15: order, sign, isLawful, look, openShoulder, shutShoulder. */
public final class LaneSignTest {
    private static final int NONE = RedcrossGantry.NONE;
    private static final int OPEN = RedcrossGantry.OPEN;
    private static final int LEAVE = RedcrossGantry.LEAVE;
    private static final int CROSS = RedcrossGantry.CROSS;

    private LaneSignTest() {
    }

    public static void main(String[] args) {
        orderAnswers();
        signAnswers();
        arrowAheadOfACross();
        whatBeatsWhat();
        lawful();
        lookAnswers();
        openShoulderAnswers();
        looksGrowOld();
        looksAreUndone();
        shutShoulder();
        stopsShutTheShoulder();
        Check.end();
    }

    private static void orderAnswers() {
        RedcrossGantry x = new RedcrossGantry();
        Check.index("order(-1, 0, 0)", () -> x.order(-1, 0, 0));
        Check.index("order(12, 0, 9)", () -> x.order(12, 0, 9));
        Check.index("order(0, -1, 0)", () -> x.order(0, -1, 0));
        Check.index("order(0, 4, 2)", () -> x.order(0, 4, CROSS));
        Check.argument("order(0, 0, -2)", () -> x.order(0, 0, -2));
        Check.argument("order(0, 3, 3)", () -> x.order(0, 3, 3));
        for (int lane = 0; lane < 4; lane++) {
            int l = lane;
            Check.state("a cross at the section 0", () -> x.order(0, l, CROSS));
            Check.due("leave at the section 0", NONE, () -> x.order(0, l, LEAVE));
            Check.state("a cross at the section 0 again", () -> x.order(0, l, CROSS));
            Check.due("open at the section 0", LEAVE, () -> x.order(0, l, OPEN));
            Check.due("back", OPEN, () -> x.order(0, l, NONE));
            Check.due("a cross at the section 1", NONE, () -> x.order(1, l, CROSS));
        }
        Check.due("back", CROSS, () -> x.order(1, 3, NONE));
        Check.due("back again", NONE, () -> x.order(1, 3, NONE));
    }

    private static void signAnswers() {
        RedcrossGantry x = new RedcrossGantry();
        Check.index("sign(-1, 0)", () -> x.sign(-1, 0));
        Check.index("sign(12, 0)", () -> x.sign(12, 0));
        Check.index("sign(0, -1)", () -> x.sign(0, -1));
        Check.index("sign(11, 4)", () -> x.sign(11, 4));
        Check.due("sign(11, 3)", OPEN, () -> x.sign(11, 3));
        Check.due("sign(11, 0)", CROSS, () -> x.sign(11, 0));
        x.order(11, 0, OPEN);
        Check.due("sign(11, 0) by hand", OPEN, () -> x.sign(11, 0));
        x.order(11, 3, CROSS);
        Check.due("sign(11, 3) by hand", CROSS, () -> x.sign(11, 3));
        Check.due("ahead of the last corner", LEAVE, () -> x.sign(10, 3));
    }

    private static void arrowAheadOfACross() {
        RedcrossGantry x = new RedcrossGantry();
        x.order(5, 2, CROSS);
        Check.due("the cross", CROSS, () -> x.sign(5, 2));
        Check.due("ahead of it", LEAVE, () -> x.sign(4, 2));
        Check.due("farther ahead", OPEN, () -> x.sign(3, 2));
        Check.due("behind it", OPEN, () -> x.sign(6, 2));
        Check.due("beside it", OPEN, () -> x.sign(4, 1));
        Check.due("beside it", OPEN, () -> x.sign(4, 3));
        x.order(4, 2, OPEN);
        Check.due("open by hand", LEAVE, () -> x.sign(4, 2));
        x.order(4, 2, CROSS);
        Check.due("a cross ahead of a cross", CROSS, () -> x.sign(4, 2));
        Check.due("ahead of both", LEAVE, () -> x.sign(3, 2));
        x.order(4, 2, LEAVE);
        Check.due("leave by hand", LEAVE, () -> x.sign(4, 2));
        Check.due("ahead of a leave", OPEN, () -> x.sign(3, 2));
        x.order(5, 2, NONE);
        Check.due("leave by hand without a cross", LEAVE, () -> x.sign(4, 2));
    }

    private static void whatBeatsWhat() {
        RedcrossGantry x = new RedcrossGantry();
        x.works(1, 5, 6, 0, 5);
        Check.due("works", CROSS, () -> x.sign(5, 1));
        x.order(5, 1, OPEN);
        Check.due("by hand over works, ahead of works", LEAVE, () -> x.sign(5, 1));
        x.order(6, 1, OPEN);
        Check.due("by hand over works", OPEN, () -> x.sign(6, 1));
        x.order(6, 1, LEAVE);
        Check.due("leave by hand over works", LEAVE, () -> x.sign(6, 1));
        x.stop(8, 2);
        x.report(8, 2);
        Check.due("suspected", OPEN, () -> x.sign(8, 2));
        x.confirm(0);
        Check.due("confirmed", CROSS, () -> x.sign(8, 2));
        Check.due("ahead of it", LEAVE, () -> x.sign(7, 2));
        x.order(8, 2, OPEN);
        Check.due("by hand over an incident", OPEN, () -> x.sign(8, 2));
        x.order(3, 0, OPEN);
        Check.due("by hand over the shut shoulder", LEAVE, () -> x.sign(2, 0) == CROSS ? x.sign(3, 0) : NONE);
        x.order(4, 0, OPEN);
        Check.due("by hand over the shut shoulder", OPEN, () -> x.sign(3, 0));
        x.order(3, 0, NONE);
        Check.due("shut again", CROSS, () -> x.sign(3, 0));
    }

    private static void lawful() {
        RedcrossGantry x = new RedcrossGantry();
        Check.due("lawful at first", 1, () -> Check.bit(x.isLawful()));
        x.order(5, 2, CROSS);
        x.order(4, 2, OPEN);
        x.limit(7, 40);
        x.limit(6, 120);
        Check.due("lawful as soon as ordered", 1, () -> Check.bit(x.isLawful()));
        x.pass(1);
        Check.due("lawful with limits", 1, () -> Check.bit(x.isLawful()));
        x.works(1, 5, 6, 1, 5);
        x.order(6, 1, OPEN);
        x.limit(7, NONE);
        x.limit(6, NONE);
        x.limit(11, 40);
        for (int i = 0; i < 6; i++) {
            x.pass(1);
            Check.due("lawful with works", 1, () -> Check.bit(x.isLawful()));
        }
    }

    private static void lookAnswers() {
        RedcrossGantry x = new RedcrossGantry();
        Check.index("look(-1)", () -> Check.bit(x.look(-1)));
        Check.index("look(12)", () -> Check.bit(x.look(12)));
        Check.due("look(11)", 1, () -> Check.bit(x.look(11)));
        x.stop(4, 0);
        x.stop(5, 1);
        Check.due("one is stopped", 0, () -> Check.bit(x.look(4)));
        Check.due("one is stopped in another lane", 1, () -> Check.bit(x.look(5)));
        x.look(0);
        x.openShoulder(0, 0);
        x.demand(4);
        x.pass(1);
        Check.due("it holds one", 0, () -> Check.bit(x.look(0)));
        x.demand(0);
        x.pass(1);
        Check.due("it holds none", 1, () -> Check.bit(x.look(0)));
    }

    private static void openShoulderAnswers() {
        RedcrossGantry x = new RedcrossGantry();
        Check.index("openShoulder(-1, 3)", () -> x.openShoulder(-1, 3));
        Check.index("openShoulder(12, 3)", () -> x.openShoulder(12, 3));
        Check.index("openShoulder(3, 12)", () -> x.openShoulder(3, 12));
        Check.index("openShoulder(3, -1)", () -> x.openShoulder(3, -1));
        Check.argument("openShoulder(3, 2)", () -> x.openShoulder(3, 2));
        Check.state("without a look", () -> x.openShoulder(3, 3));
        Check.state("without a look at the begin", () -> x.openShoulder(0, 0));
        Check.state("without a look at the end", () -> x.openShoulder(11, 11));
        x.look(3);
        x.look(5);
        Check.state("with a look at both ends alone", () -> x.openShoulder(3, 5));
        Check.due("nothing has changed", CROSS, () -> x.sign(3, 0));
        Check.due("one section", 1, () -> x.openShoulder(3, 3));
        x.look(4);
        Check.due("two more", 2, () -> x.openShoulder(3, 5));
        Check.due("none more", 0, () -> x.openShoulder(3, 5));
        Check.due("open", OPEN, () -> x.sign(4, 0));
        Check.due("the last one", LEAVE, () -> x.sign(5, 0));
        Check.due("ahead", CROSS, () -> x.sign(2, 0));
        Check.due("behind", CROSS, () -> x.sign(6, 0));
    }

    private static void looksGrowOld() {
        RedcrossGantry x = new RedcrossGantry();
        x.look(3);
        x.look(4);
        x.pass(4);
        x.look(4);
        Check.due("4 minutes ago", 1, () -> x.openShoulder(3, 3));
        x.pass(1);
        Check.state("5 minutes ago, also where it is open", () -> x.openShoulder(3, 3));
        Check.due("the latest look counts", 1, () -> x.openShoulder(4, 4));
    }

    private static void looksAreUndone() {
        RedcrossGantry x = new RedcrossGantry();
        x.look(2);
        x.stop(2, 1);
        Check.due("stopped in another lane", 1, () -> x.openShoulder(2, 2));
        x.look(3);
        x.stop(3, 0);
        x.report(3, 0);
        x.confirm(0);
        x.send(0, 0);
        Check.state("stopped since", () -> x.openShoulder(3, 3));
        x.pass(7);
        x.look(3);
        Check.state("a look that found one", () -> x.openShoulder(3, 3));
        x.pass(1);
        Check.due("cleared", RedcrossGantry.CLEARED, () -> x.incident(0, 2));
        Check.state("cleared, but not looked at again", () -> x.openShoulder(3, 3));
        x.look(3);
        Check.due("looked at again", 1, () -> x.openShoulder(3, 3));
        RedcrossGantry y = new RedcrossGantry();
        y.look(0);
        y.openShoulder(0, 0);
        y.demand(4);
        y.pass(1);
        y.look(0);
        y.shutShoulder();
        Check.state("the latest look found it not clear", () -> y.openShoulder(0, 0));
    }

    private static void shutShoulder() {
        RedcrossGantry x = new RedcrossGantry();
        Check.due("shut at first", 0, x::shutShoulder);
        for (int section = 2; section < 6; section++) {
            x.look(section);
        }
        x.openShoulder(2, 3);
        x.openShoulder(5, 5);
        Check.due("three were open", 3, x::shutShoulder);
        Check.due("none was open", 0, x::shutShoulder);
        Check.due("shut", CROSS, () -> x.sign(2, 0));
        Check.due("the looks hold on", 4, () -> x.openShoulder(2, 5));
        x.look(0);
        x.look(11);
        x.openShoulder(0, 0);
        x.openShoulder(11, 11);
        Check.due("both ends too", 6, x::shutShoulder);
        x.stop(0, 0);
        Check.due("one is stopped at the begin", 0, () -> Check.bit(x.look(0)));
        x.stop(11, 0);
        Check.due("one is stopped at the end", 0, () -> Check.bit(x.look(11)));
    }

    private static void stopsShutTheShoulder() {
        RedcrossGantry x = new RedcrossGantry();
        x.look(2);
        x.look(3);
        x.openShoulder(2, 3);
        x.stop(3, 1);
        Check.due("open still", OPEN, () -> x.sign(2, 0));
        x.stop(7, 0);
        Check.due("shut everywhere", CROSS, () -> x.sign(2, 0));
        Check.due("looks elsewhere hold on", 2, () -> x.openShoulder(2, 3));
        Check.state("stopped there already", () -> {
            x.stop(7, 0);
            return 0;
        });
        Check.due("nothing has changed", 2, x::shutShoulder);
    }
}
