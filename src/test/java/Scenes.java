/** Roads with a past, on which calls are tried. */
final class Scenes {
    private Scenes() {
    }

    /**
     * A road in the minute 66 with something of everything: the incident 0 is confirmed and the patrol 1
     * sent to it, 1 is suspected, 2 cleared, 3 confirmed and none sent; the works 0 are on, 1 over, 2 to come;
     * the shoulder is open at 1 to 3; a speed sign is held, limits and orders stand, detectors are stuck or dead.
     */
    static Road busy() {
        Road x = new Road().does("demand", 33).does("pass", 3).does("demand", 5);
        x.does("detector", 2, RedcrossGantry.STUCK, 77).does("detector", 6, RedcrossGantry.DEAD, 0);
        x.does("order", 7, 2, RedcrossGantry.CROSS).does("order", 3, 1, RedcrossGantry.LEAVE);
        x.does("order", 9, 3, RedcrossGantry.OPEN);
        x.does("works", 1, 8, 9, 5, 90).does("works", 2, 8, 10, 20, 66).does("works", 3, 10, 11, 70, 80);
        x.confirmed(0, 5, 1).does("report", 10, 2).does("report", 1, 3).does("confirm", 2);
        x.does("pass", 58).does("limit", 4, 60).does("pass", 1).does("demand", 12);
        x.does("look", 1).does("look", 2).does("look", 3).does("openShoulder", 1, 3);
        x.does("send", 1, 0).does("pass", 2).does("look", 8);
        x.confirmed(3, 9, 2).does("limit", 11, 80).does("limit", 4, 40);
        x.does("weather", RedcrossGantry.WIND).does("pass", 1);
        return x.does("limit", 4, RedcrossGantry.NONE).does("look", 4).does("pass", 1).does("limit", 2, 80);
    }
}
