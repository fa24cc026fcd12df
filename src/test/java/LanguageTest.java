import java.io.IOException;
import java.lang.reflect.Field;
import java.lang.reflect.Method;
import java.lang.reflect.Modifier;
import java.nio.file.Files;
import java.nio.file.Path;
import java.util.ArrayList;
import java.util.List;
import java.util.regex.Matcher;
import java.util.regex.Pattern;

/** Those rules of ../shared/LANGUAGE.md that the text of the program shows. Run from the project's folder. */
public final class LanguageTest {
    private static final String[] BARRED = {
        "^\\s*package\\b", "^\\s*import\\s+(?!java\\.util\\.)", "^(?!.*\\b(case|default)\\b).*->", "::",
        "\\bfinally\\b", "\\bsynchronized\\b", "\\bassert\\b", "\\bMath\\.\\w+Exact\\b",
        "\\bSystem\\.(?!arraycopy)", "\\bRandom\\b", "\\bThread\\b", "\"\\s*\\+", "\\+\\s*\"",
        "\\bString toString\\(", "\\bint hashCode\\(", "\\bboolean equals\\(", "^\\s*static\\s*\\{",
        "\\bstatic\\s+(?!final\\b)[\\w\\[\\]]+\\s+\\w+\\s*[=;]", "[^\\x01-\\x7f]",
        "\\bcatch\\s*\\(.*\\b(ArrayIndexOutOfBounds|NullPointer|ClassCast|NegativeArraySize|ArrayStore|)Exception\\b",
        "\\bcatch\\s*\\(.*\\bThrowable\\b",
        "\\bthrow (?!new (IllegalState|IllegalArgument|IndexOutOfBounds|Arithmetic|UnsupportedOperation|NoSuchElement"
            + "|Runtime)Exception\\([\")])"};

    private LanguageTest() {
    }

    public static void main(String[] args) throws IOException {
        String source = Files.readString(Path.of("src/main/java/RedcrossGantry.java"));
        String code = source.replaceAll("(?s)/\\*.*?\\*/", "").replaceAll("//[^\n]*", "");
        for (String barred : BARRED) {
            Matcher matcher = Pattern.compile(barred, Pattern.MULTILINE).matcher(code);
            boolean found = matcher.find();
            Check.dueIs("found " + (found ? matcher.group() : "") + " by " + barred, false, found);
        }
        methodsAreShort(code);
        classesAreSmall();
        Check.end();
    }

    // Some twelve classes, of some twenty fields beside their constants, with seven parameters at most.
    private static void classesAreSmall() {
        List<Class<?>> all = new ArrayList<>(List.of(RedcrossGantry.class.getDeclaredClasses()));
        all.add(RedcrossGantry.class);
        Check.dueIs(all.size() + " classes", true, all.size() <= 12);
        for (Class<?> one : all) {
            int fields = 0;
            for (Field field : one.getDeclaredFields()) {
                boolean fixed = Modifier.isStatic(field.getModifiers());
                fields += fixed || field.isSynthetic() ? 0 : 1;
                Check.dueIs(field + " static, but not final", false, fixed && !Modifier.isFinal(field.getModifiers()));
            }
            Check.dueIs(one + " with " + fields + " fields", true, fields <= 20);
            for (Method method : one.getDeclaredMethods()) {
                Check.dueIs(method + " with over seven parameters", false, method.getParameterCount() > 7);
            }
        }
    }

    private static void methodsAreShort(String code) {
        String[] lines = code.split("\n");
        int begun = 0;
        for (int i = 0; i < lines.length; i++) {
            if (lines[i].matches("(    |        )(public|private|static|int|boolean|void|[A-Z]\\w*\\().*\\(.*")) {
                begun = i;
            }
            Check.dueIs("line " + i + " in a method of over 60 lines", false,
                    i - begun > 60 && lines[i].startsWith("            "));
        }
    }
}
