/** Of several exceptions that are due at once it is the first one of the throws clause; and nothing has changed. */
public final class FirstThrownTest {
    private static final int OPEN = RedcrossGantry.OPEN;
    private static final int CROSS = RedcrossGantry.CROSS;
    private static final int STUCK = RedcrossGantry.STUCK;
    private static final String FIRST = "When a call throws, nothing has changed; of several exceptions it is the first one of "
            + "the throws clause.";

    private FirstThrownTest() {
    }

    public static void main(String[] args) {
        Check.says(FIRST);
        passAtTheEnd();
        sections();
        detectors();
        limits();
        orders();
        openings();
        reports();
        incidents();
        sendings();
        patrols();
        worksOfNoPlace();
        worksOutOfRange();
        proofs();
        fines();
        Check.end();
    }

    private static void passAtTheEnd() {
        Road x = new Road();
        for (int time = 0; time < 10; time++) {
            x.does("pass", 60);
        }
        x.argument("pass", 0).argument("pass", 61).argument("pass", -1).argument("pass", Integer.MAX_VALUE).state("pass", 1);
    }

    private static void sections() {
        new Road().index("section", 12, 6).index("section", -1, -1).index("section", 12, -1).argument("section", 11, 6);
    }

    private static void detectors() {
        new Road().index("detector", 12, 3, 0).index("detector", -1, -1, 0).index("detector", 12, STUCK, 121)
                .index("detector", -1, STUCK, -1).argument("detector", 11, 3, 121);
    }

    private static void limits() {
        new Road().index("limit", 12, 50).index("limit", -1, -2).index("limit", -1, 0).argument("limit", 0, 50);
    }

    private static void orders() {
        Road x = new Road().index("order", 12, 0, 3).index("order", 0, 4, 3).index("order", -1, -1, -2);
        x.index("order", 0, 4, CROSS).index("order", 0, -1, CROSS).index("order", -1, 1, CROSS);
        x.argument("order", 0, 0, 3).argument("order", 0, 3, -2).state("order", 0, 0, CROSS);
    }

    private static void openings() {
        Road x = new Road().index("openShoulder", 12, 3).index("openShoulder", 3, -1).index("openShoulder", 12, -1);
        x.index("openShoulder", 3, 12).index("openShoulder", -1, 3).argument("openShoulder", 5, 3);
        x.argument("openShoulder", 11, 0).does("look", 4).argument("openShoulder", 5, 4).state("openShoulder", 5, 5);
    }

    private static void reports() {
        Road x = new Road();
        for (int number = 0; number < 12; number++) {
            x.does("report", number, 0);
        }
        x.index("report", 12, 0).index("report", 0, 4).index("report", 0, -1).index("report", -1, 1).state("report", 0, 1);
    }

    private static void incidents() {
        Road x = new Road().index("incident", 0, 4).index("incident", 0, -1).does("report", 3, 3);
        x.index("incident", 1, 4).index("incident", -1, -1).argument("incident", 0, 4).argument("incident", 0, -1);
    }

    private static void sendings() {
        Road x = new Road().index("send", 3, 0).confirmed(0, 1, 1).does("report", 2, 2).does("send", 0, 0);
        x.index("send", 3, 1).index("send", -1, 0).index("send", 0, 2).index("send", 0, -1).index("send", 3, 2);
        x.state("send", 0, 1).state("send", 0, 0).state("send", 1, 0).state("send", 1, 1);
    }

    private static void patrols() {
        new Road().index("patrol", 3, 3).index("patrol", -1, -1).index("patrol", 3, -1).argument("patrol", 2, 3);
        new Road().index("way", 3, 12).index("way", -1, -1).index("holds", 12, 4).index("sign", -1, 4);
    }

    /** All eight works are booked, and the lanes 1 and 2 have works in the section 5. */
    private static Road full() {
        Road x = new Road().does("pass", 2).does("works", 1, 5, 5, 2, 99);
        for (int number = 1; number < 8; number++) {
            x.does("works", 2, 5, 5, 2, 99);
        }
        return x;
    }

    private static void worksOfNoPlace() {
        full().index("works", 0, 6, 5, 1, 0).index("works", 4, 5, 5, 2, 99).index("works", 0, 5, 5, 9, 9)
                .index("works", 3, 0, 5, 1, 9).index("works", 3, 12, 5, 2, 9).index("works", 3, -1, -2, 1, 1);
        full().index("works", 3, 5, 12, 1, 1).index("works", 3, 5, 0, 2, 9).index("works", 3, 5, -1, 600, 601)
                .index("works", 3, 11, 12, 2, 601);
        new Road().index("works", 3, 5, 0, 2, 9).index("works", 0, 5, 4, 2, 9).index("works", 1, 0, 0, 9, 2);
    }

    private static void worksOutOfRange() {
        full().argument("works", 3, 5, 4, 2, 9).argument("works", 3, 5, 5, 1, 9).argument("works", 3, 5, 5, 600, 601)
                .argument("works", 3, 5, 5, 9, 9).argument("works", 3, 5, 5, 2, 601).state("works", 3, 5, 5, 2, 9);
        Road x = new Road().does("pass", 2).does("works", 1, 5, 5, 2, 99).does("works", 2, 5, 5, 2, 99);
        x.argument("works", 3, 5, 4, 2, 9).argument("works", 3, 5, 5, 1, 9).argument("works", 3, 5, 5, 2, 2);
        x.argument("works", 3, 5, 5, 2, 601).state("works", 3, 5, 5, 2, 3);
    }

    private static void proofs() {
        Road x = new Road().does("pass", 60).does("pass", 1);
        x.index("proof", -1, 12, 5).index("proof", -1, -1, 0).index("proof", 0, 12, 0).index("proof", 62, -1, -1);
        x.argument("proof", -1, 0, 5).argument("proof", 62, 0, 5).argument("proof", 0, 0, -1).argument("proof", 1, 11, 5);
        x.state("proof", 1, 0, 0).state("proof", 62, 11, 4).due(OPEN, "proof", 61, 11, 4);
    }

    private static void fines() {
        Road x = new Road().does("pass", 60).does("pass", 1);
        x.index("isFined", -1, 12, 251).index("isFined", -1, -1, 0).index("isFined", 0, 12, 0).index("isFined", 62, -1, -1);
        x.argument("isFined", -1, 0, 251).argument("isFined", 62, 0, 251).argument("isFined", 0, 0, -1);
        x.argument("isFined", 1, 11, 251).state("isFined", 1, 0, 0).state("isFined", 62, 11, 250).due(1, "isFined", 61, 0, 130);
    }
}
