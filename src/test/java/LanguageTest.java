import java.io.IOException;
import java.lang.reflect.Constructor;
import java.lang.reflect.Executable;
import java.lang.reflect.Field;
import java.lang.reflect.Method;
import java.lang.reflect.Modifier;
import java.nio.charset.StandardCharsets;
import java.nio.file.Files;
import java.nio.file.Path;
import java.util.regex.Matcher;
import java.util.regex.Pattern;

/** What LANGUAGE.md rules out, as far as a look at the source and at the class can tell; FaceTest has its rule 1. */
public final class LanguageTest {
    private static final Check check = new Check();

    // The rules 2, 4 and 6; a name with a dot is the library's, of which the program uses Math alone.
    private static final Pattern RULED_OUT = Pattern.compile(
        "\\b(package|import|throws?|try|catch|finally|synchronized|assert|native|volatile|transient|strictfp)\\b"
        + "|->|::|\\b(System|Integer|Long|String|Arrays|Thread|Object)\\.|\\bMath\\.(?!(max|min|abs)\\()|\\w+Exact\\b");

    // Rule 9: neither of these shows its end on its own line.
    private static final Pattern ENDLESS = Pattern.compile("while\\s*\\(\\s*true|for\\s*\\([^;]*;\\s*;");

    public static void main(String[] args) throws IOException {
        String source = Files.readString(Path.of("src/main/java/RateGraph.java"), StandardCharsets.UTF_8);
        String code = source.replaceAll("(?s)/\\*.*?\\*/", "").replaceAll("//[^\n]*", "");
        findsNone("ruled out", RULED_OUT, code);
        findsNone("without an end", ENDLESS, code);
        check.due("characters above 255", source.chars().filter(c -> c > 255).count(), 0);
        methodsAreShort(source);
        Class<?>[] inside = RateGraph.class.getDeclaredClasses();
        check.due("at most twelve classes", 1 + inside.length <= 12 ? 1 : 0, 1);
        classKeepsTheBounds(RateGraph.class);
        for (Class<?> type : inside) {
            classKeepsTheBounds(type);
            check.due("classes inside " + type, type.getDeclaredClasses().length, 0);
        }
        check.end();
    }

    private static void findsNone(String title, Pattern pattern, String code) {
        Matcher matcher = pattern.matcher(code);
        while (matcher.find()) {
            check.dueText(title, matcher.group(), "not in the source");
        }
    }

    /** Rule 11: a method ends at the brace that stands under its head. */
    private static void methodsAreShort(String source) {
        String[] lines = source.split("\n");
        int methods = 0;
        for (int i = 0; i < lines.length; i++) {
            if (lines[i].matches(" {4,8}(public|private) .*\\) \\{")) {
                String end = lines[i].replaceAll("\\S.*", "") + "}";
                int last = i;
                while (last < lines.length && !lines[last].equals(end)) {
                    last++;
                }
                check.due(lines[i].strip() + " has at most sixty lines", last - i < 60 ? 1 : 0, 1);
                methods++;
            }
        }
        check.due("methods are found", methods > 14 ? 1 : 0, 1);
    }

    /** The rules 5 and 11. */
    private static void classKeepsTheBounds(Class<?> type) {
        int fields = 0;
        for (Field field : type.getDeclaredFields()) {
            if (Modifier.isStatic(field.getModifiers())) {
                check.due(field + " is final", field.getModifiers() & Modifier.FINAL, Modifier.FINAL);
            } else {
                fields++;
            }
        }
        check.due(type + " has at most twenty fields", fields <= 20 ? 1 : 0, 1);
        for (Method method : type.getDeclaredMethods()) {
            takesAtMostSeven(method);
        }
        for (Constructor<?> constructor : type.getDeclaredConstructors()) {
            takesAtMostSeven(constructor);
        }
    }

    private static void takesAtMostSeven(Executable executable) {
        check.due(executable + " takes at most seven", executable.getParameterCount() <= 7 ? 1 : 0, 1);
    }
}
