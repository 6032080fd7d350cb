import java.io.IOException;
import java.lang.reflect.InvocationTargetException;
import java.lang.reflect.Method;
import java.lang.reflect.Modifier;
import java.nio.file.Files;
import java.nio.file.Path;
import java.util.Arrays;
import java.util.Comparator;
import java.util.List;

/**
 * Each sentence of the document that names an edge, by a test of its own, named after the promise
 * and quoting the words that it holds the class to. Run at the project's root.
 */
public final class EdgeTests {
    private static final int PROMISES = 26;
    private static final List<Class<? extends Edges>> KINDS = List.of(
        EdgesOfTask.class, EdgesOfAsking.class, EdgesOfActs.class, EdgesOfJudge.class,
        EdgesOfSeen.class, EdgesOfChances.class, EdgesOfSlots.class);

    public static void main(String[] args) throws IOException, IllegalAccessException {
        String document = words(Files.readString(Path.of("../shared/DOC.md")));
        int[] tests = new int[PROMISES + 1];
        int ran = 0;
        for (Class<? extends Edges> kind : KINDS) {
            for (Method method : testsOf(kind)) {
                look(method, document);
                run(method);
                tests[promiseOf(method)]++;
                ran++;
            }
        }
        for (int promise = 1; promise <= PROMISES; promise++) {
            Edges.test = "promise " + promise;
            Edges.same("has tests", tests[promise] > 0 ? "has tests" : "has none");
        }
        System.out.println(ran + " tests of edges: "
            + (Edges.wrong == 0 ? "all answers are as due" : Edges.wrong + " answers are not as due"));
        if (Edges.wrong != 0) {
            System.exit(1);
        }
    }

    private static List<Method> testsOf(Class<?> kind) {
        return Arrays.stream(kind.getDeclaredMethods())
            .filter(method -> method.getName().startsWith("promise") && Modifier.isStatic(method.getModifiers()))
            .sorted(Comparator.comparing(Method::getName))
            .toList();
    }

    private static int promiseOf(Method method) {
        return Integer.parseInt(method.getName().substring("promise".length(), "promise".length() + 2));
    }

    /** A test without words of the document, or with words that are not there, is wrong. */
    private static void look(Method method, String document) {
        Edges.test = method.getName();
        Used.last = null;
        Says says = method.getAnnotation(Says.class);
        String quote = says == null ? "" : words(says.value());
        boolean stands = !quote.isEmpty() && document.contains(quote);
        Edges.same("words of the document", stands ? "words of the document" : "'" + quote + "'");
    }

    private static void run(Method method) throws IllegalAccessException {
        try {
            method.setAccessible(true);
            method.invoke(null);
        } catch (InvocationTargetException thrown) {
            Edges.same("an end", String.valueOf(thrown.getCause()));
        }
    }

    private static String words(String text) {
        return text.replaceAll("\\s+", " ").trim();
    }
}
