import java.util.ArrayList;
import java.util.List;

/**
 * All that can be seen of a program, now and later, in views of less than 400 calls each:
 * two programs with the same past are alike if they answer alike in each view.
 */
final class Views {
    static final int COUNT = 9;

    private final RedcrossGantry of;
    private final int now;
    private final List<String> seen = new ArrayList<>();

    private Views(RedcrossGantry of, int now) {
        this.of = of;
        this.now = now;
    }

    /** The first answer in which two programs differ by a view, or "nothing". */
    static String difference(int view, RedcrossGantry one, RedcrossGantry other, int now) {
        List<String> a = see(view, one, now);
        List<String> b = see(view, other, now);
        for (int i = 0; i < a.size(); i++) {
            if (!a.get(i).equals(b.get(i))) {
                return a.get(i) + ", which was " + b.get(i);
            }
        }
        return "nothing";
    }

    private static List<String> see(int view, RedcrossGantry of, int now) {
        Views sight = new Views(of, now);
        switch (view) {
            case 0: sight.roadAndSigns(); break;
            case 1: sight.lists(); break;
            case 2: sight.settings(); break;
            case 3: sight.stuckNumbers(0); break;
            case 4: sight.stuckNumbers(1); break;
            case 5: sight.shoulder(); break;
            case 6: sight.minutesToCome(); break;
            case 7: sight.worksToCome(); break;
            default: sight.numbersAndPlaces(); break;
        }
        return sight.seen;
    }

    private void ask(String name, int... with) {
        StringBuilder line = new StringBuilder(name);
        for (int one : with) {
            line.append(' ').append(one);
        }
        seen.add(line + ": " + Road.answer(of, name, with));
    }

    private void roadAndSigns() {
        for (int section = 0; section < 12; section++) {
            for (int lane = 0; lane < 4; lane++) {
                ask("holds", section, lane);
                ask("sign", section, lane);
            }
            for (int what = 0; what < 6; what++) {
                ask("section", section, what);
            }
            for (int patrol = 0; patrol < 3; patrol++) {
                ask("way", patrol, section);
            }
        }
        for (int what = 0; what < 4; what++) {
            ask("vehicles", what);
        }
        ask("isLawful");
        ask("pattern");
        for (int patrol = 0; patrol < 3; patrol++) {
            for (int what = 0; what < 3; what++) {
                ask("patrol", patrol, what);
            }
        }
    }

    private void lists() {
        for (int incident = 0; incident <= 12; incident++) {
            for (int what = 0; what < 4; what++) {
                ask("incident", incident, what);
            }
        }
        for (int works = 0; works <= 8; works++) {
            ask("isOn", works);
        }
        for (int section = 0; section < 12; section++) {
            for (int what = 0; what < 5; what++) {
                ask("proof", now, section, what);
            }
        }
        for (int minute = now - 61; minute <= now + 1; minute++) {
            ask("proof", minute, Math.floorMod(minute, 12), Math.floorMod(minute, 5));
            ask("isFined", minute, Math.floorMod(minute, 12), 100);
        }
    }

    // What the calls that set something answer: what it was.
    private void settings() {
        ask("demand", 0);
        ask("weather", 0);
        for (int section = 0; section < 12; section++) {
            ask("limit", section, RedcrossGantry.NONE);
            ask("detector", section, RedcrossGantry.GOOD, 0);
            for (int lane = 0; lane < 4; lane++) {
                ask("order", section, lane, RedcrossGantry.NONE);
            }
        }
        ask("shutShoulder");
    }

    // Without a guess the number is believed at which a detector is stuck.
    private void stuckNumbers(int first) {
        for (int section = 1 - first; section < 12; section += 2) {
            ask("detector", section, RedcrossGantry.DEAD, 0);
        }
        for (int section = first; section < 12; section += 2) {
            ask("section", section, 1);
        }
    }

    private void shoulder() {
        for (int minute = 0; minute < 6; minute++) {
            for (int section = 0; section < 12; section++) {
                ask("openShoulder", section, section);
            }
            ask("shutShoulder");
            ask("pass", 1);
        }
    }

    private void minutesToCome() {
        for (int minute = 0; minute < 8; minute++) {
            ask("pass", 1);
            for (int section = 0; section < 12; section++) {
                ask("section", section, 3);
                ask("section", section, 4);
                ask("holds", section, minute % 4);
            }
            for (int what = 0; what < 4; what++) {
                ask("vehicles", what);
            }
            for (int patrol = 0; patrol < 3; patrol++) {
                ask("patrol", patrol, 2);
            }
        }
    }

    private void worksToCome() {
        int[] steps = {1, 1, 2, 5, 11, 40, 60};
        for (int step : steps) {
            ask("pass", step);
            for (int section = 1; section < 12; section++) {
                for (int lane = 1; lane < 4; lane++) {
                    ask("sign", section, lane);
                }
            }
            for (int works = 0; works < 8; works++) {
                ask("isOn", works);
            }
        }
    }

    private void numbersAndPlaces() {
        for (int patrol = 0; patrol < 3; patrol++) {
            for (int incident = 0; incident < 13; incident++) {
                ask("send", patrol, incident);
            }
        }
        for (int incident = 0; incident < 13; incident++) {
            ask("confirm", incident);
        }
        for (int section = 0; section < 12; section++) {
            for (int lane = 0; lane < 4; lane++) {
                ask("stop", section, lane);
                ask("report", section, lane);
            }
        }
        for (int lane = 1; lane < 4; lane++) {
            for (int section = 1; section < 12; section++) {
                ask("works", lane, section, section, 599, 600);
            }
        }
    }
}
