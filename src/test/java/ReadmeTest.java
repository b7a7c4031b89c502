import java.io.ByteArrayOutputStream;
import java.io.File;
import java.io.IOException;
import java.io.PrintStream;
import java.lang.reflect.Field;
import java.lang.reflect.Method;
import java.lang.reflect.Modifier;
import java.nio.charset.StandardCharsets;
import java.nio.file.Files;
import java.nio.file.Path;

/** README.md: its example is the one that is compiled here and prints what it says; nothing of the face is missing. */
public final class ReadmeTest {
    private static final Check check = new Check();

    public static void main(String[] args) throws IOException, IllegalAccessException {
        String readme = read("README.md");
        holds(readme, "```java\n" + read("src/test/java/Example.java") + "```\n");
        holds(readme, "```text\n" + printedByTheExample() + "```\n");
        namesTheMethods(readme);
        namesTheConstants(readme);
        namesTheTests(readme);
        holds(readme, ".ci/run\n");
        check.end();
    }

    private static String read(String file) throws IOException {
        return Files.readString(Path.of(file), StandardCharsets.UTF_8);
    }

    private static void holds(String readme, String part) {
        check.due("README.md holds " + part.strip(), readme.contains(part) ? 1 : 0, 1);
    }

    private static String printedByTheExample() {
        PrintStream before = System.out;
        ByteArrayOutputStream printed = new ByteArrayOutputStream();
        System.setOut(new PrintStream(printed, true, StandardCharsets.UTF_8));
        Example.main(new String[0]);
        System.setOut(before);
        return printed.toString(StandardCharsets.UTF_8).replace(System.lineSeparator(), "\n");
    }

    private static void namesTheMethods(String readme) {
        holds(readme, "| `RateGraph()` |");
        for (Method method : RateGraph.class.getDeclaredMethods()) {
            if (Modifier.isPublic(method.getModifiers())) {
                String start = "| `" + method.getReturnType() + " " + method.getName() + "(";
                holds(readme, start);
                String row = readme.substring(readme.indexOf(start) + start.length());
                String parameters = row.substring(0, row.indexOf(')'));
                int named = parameters.isEmpty() ? 0 : parameters.split(",").length;
                check.due("parameters of " + method.getName() + " in README.md", named, method.getParameterCount());
            }
        }
    }

    private static void namesTheConstants(String readme) throws IllegalAccessException {
        for (Field field : RateGraph.class.getFields()) {
            holds(readme, "| `" + field.getName() + "` | `" + field.getLong(null) + "` |");
        }
    }

    private static void namesTheTests(String readme) {
        for (String file : new File("src/test/java").list()) {
            if (file.endsWith("Test.java")) {
                holds(readme, "`" + file.substring(0, file.length() - ".java".length()) + "`");
            }
        }
    }
}
