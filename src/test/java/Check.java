import java.io.IOException;
import java.nio.file.Files;
import java.nio.file.Path;
import java.util.regex.Matcher;
import java.util.regex.Pattern;

/** Counts the answers that are not as due; a test ends with end(). */
final class Check {
    interface Call {
        long run();
    }

    private static int wrong = 0;
    private static int asked = 0;
    private static String sentence = "";
    private static String document = null;

    private Check() {
    }

    static void due(String call, long want, Call run) {
        asked++;
        String got;
        try {
            got = Long.toString(run.run());
        } catch (RuntimeException e) {
            got = e.getClass().getName();
        }
        if (!got.equals(Long.toString(want))) {
            tell(call + " answered " + got + ", due is " + want);
        }
    }

    /** The words of the document that the next answers are asked for; they are looked up, if it is there. */
    static void says(String words) {
        sentence = words;
        if (document == null) {
            document = document();
        }
        dueIs("said by the document", true, document.isEmpty() || document.contains(words));
    }

    /**
     * All that the document says of a promise, sentence by sentence, for the next answers: none may be missing
     * from its chapter or left over there. Its declaration is looked at by FaceTest.
     */
    static void promise(int number, String... sentences) {
        sentence = "Promise " + number;
        if (document == null) {
            document = document();
        }
        String chapter = document.isEmpty() ? String.join("", sentences) : chapter(number);
        for (String words : sentences) {
            int at = chapter.indexOf(words);
            dueIs("said: " + words, true, at >= 0);
            chapter = at < 0 ? chapter : chapter.substring(0, at) + chapter.substring(at + words.length());
        }
        dueText("what is left of the chapter", "", chapter.replaceAll("[\\s-]", ""));
    }

    private static String chapter(int number) {
        Matcher chapter = Pattern.compile("\\n## Promise " + number + ": .*\\s+`[^`]*`: ((?s:.*?))\\n## ").matcher(document);
        return chapter.find() ? chapter.group(1) : "";
    }

    private static String document() {
        Path path = Path.of("../shared/DOC.md");
        try {
            return Files.exists(path) ? Files.readString(path) : "";
        } catch (IOException e) {
            return "";
        }
    }

    static void dueText(String call, String want, String got) {
        asked++;
        if (!got.equals(want)) {
            tell(call + " answered " + got + ", due is " + want);
        }
    }

    static void dueIs(String call, boolean want, boolean got) {
        asked++;
        if (want != got) {
            tell(call + " is " + got + ", due is " + want);
        }
    }

    static void index(String call, Call run) {
        dueThrow(call, IndexOutOfBoundsException.class, run);
    }

    static void argument(String call, Call run) {
        dueThrow(call, IllegalArgumentException.class, run);
    }

    static void state(String call, Call run) {
        dueThrow(call, IllegalStateException.class, run);
    }

    // The very class: what the machine throws of itself is often one below it.
    private static void dueThrow(String call, Class<?> want, Call run) {
        asked++;
        String got;
        try {
            got = Long.toString(run.run());
        } catch (RuntimeException e) {
            if (e.getClass() == want) {
                return;
            }
            got = e.getClass().getName();
        }
        tell(call + " answered " + got + ", due is " + want.getName());
    }

    static long bit(boolean answer) {
        return answer ? 1 : 0;
    }

    static void tell(String fault) {
        wrong++;
        System.out.println(fault + (sentence.isEmpty() ? "" : "; asked for: " + sentence));
    }

    static void end() {
        System.out.println(asked + " asked, " + wrong + " wrong");
        if (wrong != 0 || asked == 0) {
            System.exit(1);
        }
    }
}
