import java.io.IOException;
import java.lang.reflect.Method;
import java.lang.reflect.Modifier;
import java.nio.file.Files;
import java.nio.file.Path;
import java.util.ArrayList;
import java.util.List;
import java.util.regex.Matcher;
import java.util.regex.Pattern;

/**
 * The lines of README.md: each call there answers what stands behind it, and each call of the face is told
 * and used in its group. Run from the project's folder.
 */
public final class ReadmeTest {
    private static final Pattern LINE = Pattern.compile("road\\.(\\w+)\\(([^)]*)\\);\\s+// (\\S+)");
    private static final Pattern GROUP = Pattern.compile("Ahead of the calls (.*) the interface says: ---- (.*)\\.");

    private ReadmeTest() {
    }

    public static void main(String[] args) throws IOException, ReflectiveOperationException {
        List<String> lines = Files.readAllLines(Path.of("README.md"));
        theLinesAnswer(lines);
        eachCallIsTold(String.join("\n", lines));
        theGroupsOfTheDocument(String.join("\n", lines));
        Check.end();
    }

    private static void theLinesAnswer(List<String> lines) throws ReflectiveOperationException {
        RedcrossGantry road = null;
        boolean code = false;
        for (String line : lines) {
            Matcher call = LINE.matcher(line);
            if (line.startsWith("```")) {
                code = line.equals("```java");
                road = null;
            } else if (code && line.equals("RedcrossGantry road = new RedcrossGantry();")) {
                road = new RedcrossGantry();
            } else if (code) {
                boolean read = call.matches() && road != null;
                Check.dueIs("read: " + line, true, read);
                if (read) {
                    Check.dueText(line, answer(call.group(3)), Road.answer(road, call.group(1), numbers(call.group(2))));
                }
            }
        }
    }

    private static int[] numbers(String arguments) throws ReflectiveOperationException {
        List<Integer> numbers = new ArrayList<>();
        for (String argument : arguments.isEmpty() ? new String[0] : arguments.split(", ")) {
            String name = argument.replace("RedcrossGantry.", "");
            numbers.add(name.matches("\\d+") ? Integer.parseInt(name) : constant(name));
        }
        return numbers.stream().mapToInt(Integer::intValue).toArray();
    }

    private static String answer(String written) throws ReflectiveOperationException {
        switch (written) {
            case "true": return "1";
            case "false": case "nothing": return "0";
            default: return written.matches("[A-Z]+") ? Integer.toString(constant(written)) : written;
        }
    }

    private static int constant(String name) throws ReflectiveOperationException {
        return RedcrossGantry.class.getField(name).getInt(null);
    }

    private static void eachCallIsTold(String readme) {
        for (Method method : RedcrossGantry.class.getDeclaredMethods()) {
            if (Modifier.isPublic(method.getModifiers())) {
                Check.dueIs(method.getName() + " told", true, told(readme, method.getName(), method.getParameterCount()));
                Check.dueIs(method.getName() + " used", true, readme.contains("\nroad." + method.getName() + "("));
            }
        }
    }

    private static boolean told(String readme, String name, int arguments) {
        String list = arguments == 0 ? "" : "\\w+(, \\w+){" + (arguments - 1) + "}";
        return Pattern.compile("\n\\| `" + name + "\\(" + list + "\\)` \\|").matcher(readme).find();
    }

    private static void theGroupsOfTheDocument(String readme) throws IOException {
        Path document = Path.of("../shared/DOC.md");
        Matcher group = GROUP.matcher(Files.exists(document) ? Files.readString(document) : "");
        while (group.find()) {
            int begin = readme.indexOf("\n### " + group.group(2) + "\n");
            Check.dueIs("a chapter " + group.group(2), true, begin >= 0);
            String chapter = begin < 0 ? "" : readme.substring(begin + 1).split("\n##")[0];
            for (String call : group.group(1).replace("`", "").split(", ")) {
                Check.dueIs(call + " told in " + group.group(2), true, chapter.contains("\n| `" + call + "("));
                Check.dueIs(call + " used in " + group.group(2), true, chapter.contains("\nroad." + call + "("));
            }
        }
    }
}
