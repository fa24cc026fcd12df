import java.io.IOException;
import java.nio.file.Files;
import java.nio.file.Path;
import java.util.List;
import java.util.regex.Matcher;
import java.util.regex.Pattern;
import java.util.stream.Stream;

/**
 * What "Terms" says of the constants, of the groups of calls and of exceptions; and that each of its sentences,
 * "A minute" with them, is quoted by a test. Run from the project's folder.
 */
public final class TermsTest {
    private static final int NONE = RedcrossGantry.NONE;
    private static final Path DOCUMENT = Path.of("../shared/DOC.md");
    private static final Pattern LITERAL = Pattern.compile("\"((?:[^\"\\\\]|\\\\.)*)\"");

    private TermsTest() {
    }

    public static void main(String[] args) throws IOException {
        none();
        laneSigns();
        weathers();
        detectors();
        incidents();
        anotherArgument();
        theGroupsOfTheInterface();
        eachSentenceIsQuoted();
        Check.end();
    }

    private static void none() {
        Check.says("The constants: `NONE = -1`: There is none.");
        Road x = new Road().due(-1, "limit", 3, NONE).due(-1, "order", 3, 1, NONE).due(-1, "pattern").due(-1, "patrol", 0, 1);
        x.does("detector", 10, RedcrossGantry.DEAD, 0).due(-1, "section", 11, 2).does("report", 3, 1).due(-1, "incident", 0, 3);
        x.due(-1, "limit", 3, 40).due(40, "limit", 3, -1).due(-1, "order", 3, 1, 2).due(2, "order", 3, 1, -1);
        x.due(-1, "limit", 3, -1).due(-1, "order", 3, 1, -1).due(0, "sign", 3, 1);
    }

    private static void laneSigns() {
        Check.says("`OPEN = 0, LEAVE = 1, CROSS = 2`: LANE SIGNS.");
        Road x = new Road().due(-1, "order", 5, 1, 2).due(2, "sign", 5, 1).due(1, "sign", 4, 1).due(0, "sign", 3, 1);
        x.due(2, "order", 5, 1, 1).due(1, "sign", 5, 1).due(0, "sign", 4, 1).due(1, "order", 5, 1, 0).due(0, "sign", 5, 1);
        Check.dueIs("OPEN, LEAVE and CROSS as they are written", true,
                RedcrossGantry.OPEN == 0 && RedcrossGantry.LEAVE == 1 && RedcrossGantry.CROSS == 2);
    }

    private static void weathers() {
        Check.says("`CLEAR = 0, WIND = 1, FOG = 2, ICE = 3`: Weathers.");
        Road x = new Road().due(0, "weather", 3).does("pass", 1).due(40, "section", 11, 3).due(3, "weather", 2).does("pass", 3);
        x.due(60, "section", 11, 3).due(2, "weather", 1).does("pass", 1).due(80, "section", 11, 3).due(1, "weather", 0);
        x.does("pass", 1).due(120, "section", 11, 3);
        Check.dueIs("CLEAR, WIND, FOG and ICE as they are written", true, RedcrossGantry.CLEAR == 0
                && RedcrossGantry.WIND == 1 && RedcrossGantry.FOG == 2 && RedcrossGantry.ICE == 3);
    }

    private static void detectors() {
        Check.says("`GOOD = 0, STUCK = 1, DEAD = 2`: What a detector is.");
        Road x = new Road().due(0, "section", 11, 5).due(0, "detector", 11, 1, 95).due(1, "section", 11, 5);
        x.due(95, "section", 11, 1).due(1, "detector", 11, 2, 95).due(2, "section", 11, 5).due(120, "section", 11, 1);
        x.due(2, "detector", 11, 0, 95).due(0, "section", 11, 5).due(120, "section", 11, 1);
        Check.dueIs("GOOD, STUCK and DEAD as they are written", true,
                RedcrossGantry.GOOD == 0 && RedcrossGantry.STUCK == 1 && RedcrossGantry.DEAD == 2);
    }

    private static void incidents() {
        Check.says("`SUSPECTED = 0, CONFIRMED = 1, CLEARED = 2`: How an INCIDENT is.");
        Road x = new Road().does("stop", 2, 1).does("report", 2, 1).does("report", 2, 2).due(0, "incident", 0, 2);
        x.due(1, "confirm", 0).due(1, "incident", 0, 2).due(2, "confirm", 1).due(2, "incident", 1, 2);
        x.does("send", 0, 0).does("pass", 7).due(2, "incident", 0, 2);
        Check.dueIs("SUSPECTED, CONFIRMED and CLEARED as they are written", true, RedcrossGantry.SUSPECTED == 0
                && RedcrossGantry.CONFIRMED == 1 && RedcrossGantry.CLEARED == 2);
    }

    private static void anotherArgument() {
        Check.says("IllegalArgumentException: another argument is out of its range.");
        Road x = new Road().does("report", 2, 1).argument("demand", 41).argument("pass", 61).argument("vehicles", 4);
        x.argument("section", 0, 6).argument("detector", 0, 3, 0).argument("detector", 0, 1, 121).argument("weather", 4);
        x.argument("limit", 0, 50).argument("order", 1, 0, 3).argument("openShoulder", 2, 1).argument("incident", 0, 4);
        x.argument("patrol", 0, 3).argument("works", 1, 2, 1, 0, 1).argument("works", 1, 1, 1, 0, 0).argument("proof", 0, 0, 5);
        x.argument("isFined", 0, 0, 251).argument("isFined", -1, 0, 0);
    }

    // The program's text has the headings that the document tells, each ahead of its calls and of no other.
    private static void theGroupsOfTheInterface() throws IOException {
        String[] groups = {
            "Ahead of the calls `demand`, `pass`, `holds`, `vehicles`, `section` the interface says: ---- traffic, minutes.",
            "Ahead of the calls `detector`, `weather`, `limit` the interface says: ---- detectors, weather, speed signs.",
            "Ahead of the calls `order`, `sign`, `isLawful` the interface says: ---- lane signs.",
            "Ahead of the calls `look`, `openShoulder`, `shutShoulder` the interface says: ---- shoulder.",
            "Ahead of the calls `stop`, `report`, `confirm`, `incident`, `pattern`, `way`, `send`, `patrol` the interface says: "
                + "---- incidents, patrols.",
            "Ahead of the calls `works`, `isOn`, `proof`, `isFined` the interface says: ---- works, proofs."};
        StringBuilder want = new StringBuilder();
        for (String group : groups) {
            Check.says(group);
            want.append(group, group.indexOf("----"), group.length() - 1).append(':');
            Matcher calls = Pattern.compile("`(\\w+)`").matcher(group);
            while (calls.find()) {
                want.append(' ').append(calls.group(1));
            }
            want.append('\n');
        }
        Check.dueText("the groups of calls in the program", want.toString(), groupsOf("src/main/java/RedcrossGantry.java"));
    }

    private static String groupsOf(String path) throws IOException {
        StringBuilder groups = new StringBuilder();
        for (String line : Files.readAllLines(Path.of(path))) {
            Matcher call = Pattern.compile("    public (?!static)\\w+ (\\w+)\\(.*").matcher(line);
            if (line.startsWith("    // ----")) {
                groups.append(groups.length() == 0 ? "" : "\n").append(line.substring(7)).append(':');
            } else if (call.matches()) {
                groups.append(' ').append(call.group(1));
            }
        }
        // Behind the last group are the functions that several calls use: a heading without a call.
        return groups.toString().replaceAll("(?m)^---- [^:]*:$", "");
    }

    private static void eachSentenceIsQuoted() throws IOException {
        Check.says("");
        if (!Files.exists(DOCUMENT)) {
            return;
        }
        String document = Files.readString(DOCUMENT);
        String terms = document.substring(document.indexOf("\n## Terms\n") + 10, document.indexOf("\n## Promise 1:"));
        boolean[] quoted = new boolean[terms.length()];
        try (Stream<Path> files = Files.list(Path.of("src/test/java"))) {
            for (Path file : files.filter(path -> path.toString().endsWith(".java")).toList()) {
                markQuotes(terms, quoted, Files.readString(file));
            }
        }
        int at = 0;
        for (String line : terms.split("\n", -1)) {
            // Short lines without a full stop are headings.
            if (line.endsWith(".")) {
                Check.dueText("what no test quotes of: " + line, "", unquoted(line, at, quoted));
            }
            at += line.length() + 1;
        }
    }

    private static String unquoted(String line, int at, boolean[] quoted) {
        StringBuilder left = new StringBuilder();
        for (int i = 0; i < line.length(); i++) {
            if (!quoted[at + i] && Character.isLetterOrDigit(line.charAt(i))) {
                left.append(line.charAt(i));
            }
        }
        return left.toString();
    }

    private static void markQuotes(String terms, boolean[] quoted, String source) {
        String texts = "(" + LITERAL.pattern() + "(?:\\s*\\+\\s*" + LITERAL.pattern() + ")*)";
        for (String start : List.of("says\\(\\s*", "String [A-Z_]+ =\\s*", "(?<=[{,]\\s{1,14})(?=\"Ahead)")) {
            Matcher matcher = Pattern.compile(start + texts).matcher(source);
            while (matcher.find()) {
                markAll(terms, quoted, joined(matcher.group(1)));
            }
        }
    }

    private static void markAll(String terms, boolean[] quoted, String words) {
        for (int at = terms.indexOf(words); at >= 0 && words.length() > 10; at = terms.indexOf(words, at + 1)) {
            for (int i = 0; i < words.length(); i++) {
                quoted[at + i] = true;
            }
        }
    }

    private static String joined(String literals) {
        StringBuilder words = new StringBuilder();
        Matcher matcher = LITERAL.matcher(literals);
        while (matcher.find()) {
            words.append(matcher.group(1));
        }
        return words.toString();
    }
}
