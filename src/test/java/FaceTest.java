import java.lang.reflect.Constructor;
import java.lang.reflect.Field;
import java.lang.reflect.Method;
import java.lang.reflect.Modifier;
import java.util.Arrays;
import java.util.List;
import java.util.TreeSet;

/** The public face of the document, and what LANGUAGE.md says of members. */
public final class FaceTest {
    private static final Check check = new Check();

    private static final List<String> METHODS = List.of(
        "int actor(int, int, int)", "int edge(int, int, int, int, int)", "int unedge(int)", "int solve(int)",
        "int run(int)", "int repetitions(int)", "int schedule(int)", "int peak(int)", "int nested()",
        "long latest(int)", "long token(int, int)", "int tokens(int)", "int count(int)");

    private static final List<String> CONSTANTS = List.of(
        "int DONE", "int REFUSED", "int FULL", "int BIG", "int STATE", "int INCONSISTENT", "int DEADLOCK", "long NONE");

    public static void main(String[] args) {
        check.due("public and final", RateGraph.class.getModifiers(), Modifier.PUBLIC | Modifier.FINAL);
        constructorIsTheOnlyOne();
        methodsAreThoseOfTheDocument();
        constantsAreThoseOfTheDocument();
        constantsHaveTheirValues();
        noPrivateMethodHasAPublicName(RateGraph.class);
        for (Class<?> inside : RateGraph.class.getDeclaredClasses()) {
            check.due(inside + " is static", inside.getModifiers() & Modifier.STATIC, Modifier.STATIC);
            noPrivateMethodHasAPublicName(inside);
        }
        check.end();
    }

    private static void constructorIsTheOnlyOne() {
        Constructor<?>[] all = RateGraph.class.getDeclaredConstructors();
        check.due("constructors", all.length, 1);
        check.due("constructor is public", all[0].getModifiers(), Modifier.PUBLIC);
        check.due("parameters of the constructor", all[0].getParameterCount(), 0);
    }

    private static void methodsAreThoseOfTheDocument() {
        TreeSet<String> got = new TreeSet<>();
        for (Method method : RateGraph.class.getDeclaredMethods()) {
            if (!Modifier.isPrivate(method.getModifiers())) {
                String parameters = Arrays.toString(method.getParameterTypes()).replace('[', '(').replace(']', ')');
                got.add(method.getReturnType() + " " + method.getName() + parameters);
                check.due(method + " is public alone", method.getModifiers(), Modifier.PUBLIC);
            }
        }
        same("methods", got, METHODS);
    }

    private static void constantsAreThoseOfTheDocument() {
        TreeSet<String> got = new TreeSet<>();
        for (Field field : RateGraph.class.getDeclaredFields()) {
            int modifiers = field.getModifiers();
            if (!Modifier.isPrivate(modifiers)) {
                got.add(field.getType() + " " + field.getName());
                check.due(field + " is a constant", modifiers, Modifier.PUBLIC | Modifier.STATIC | Modifier.FINAL);
            }
            check.due(field + ": static ones are final",
                Modifier.isStatic(modifiers) && !Modifier.isFinal(modifiers) ? 1 : 0, 0);
        }
        same("constants", got, CONSTANTS);
    }

    private static void constantsHaveTheirValues() {
        check.due("DONE", RateGraph.DONE, 0);
        check.due("REFUSED", RateGraph.REFUSED, -1);
        check.due("FULL", RateGraph.FULL, -2);
        check.due("BIG", RateGraph.BIG, -3);
        check.due("STATE", RateGraph.STATE, -4);
        check.due("INCONSISTENT", RateGraph.INCONSISTENT, -100);
        check.due("DEADLOCK", RateGraph.DEADLOCK, -200);
        check.due("NONE", RateGraph.NONE, -1000000000000L);
    }

    private static void noPrivateMethodHasAPublicName(Class<?> type) {
        for (Method method : type.getDeclaredMethods()) {
            boolean named = METHODS.stream().anyMatch(m -> m.contains(" " + method.getName() + "("));
            boolean isFace = type == RateGraph.class && Modifier.isPublic(method.getModifiers());
            check.due(method + " has a public one's name", named && !isFace ? 1 : 0, 0);
        }
    }

    private static void same(String title, TreeSet<String> got, List<String> want) {
        boolean equal = got.equals(new TreeSet<>(want));
        check.due(title + " " + got + " are those of the document", equal ? 1 : 0, 1);
    }
}
