import java.io.IOException;
import java.lang.reflect.InvocationTargetException;
import java.lang.reflect.Method;
import java.nio.file.Files;
import java.nio.file.Path;
import java.util.ArrayList;
import java.util.Arrays;
import java.util.Comparator;
import java.util.List;

/**
 * Runs every test of a single sentence, and looks whether each sentence stands in the document and
 * each word of the document's terms and promises stands in a sentence that is tested.
 *
 * Argument: the path of the document.
 */
public final class BoundaryTest {
    private static final List<Class<?>> CLASSES = List.of(HeapBoundaries.class, FitBoundaries.class,
            ActBoundaries.class, ClearingBoundaries.class, RefusedBoundaries.class, AskBoundaries.class,
            MightBoundaries.class);

    private BoundaryTest() {
    }

    private static List<Method> tests() {
        List<Method> tests = new ArrayList<>();
        for (Class<?> each : CLASSES) {
            List<Method> own = new ArrayList<>();
            for (Method method : each.getDeclaredMethods()) {
                if (method.isAnnotationPresent(Sentence.class)) {
                    own.add(method);
                }
            }
            own.sort(Comparator.comparing(Method::getName));
            tests.addAll(own);
        }
        return tests;
    }

    private static String nameOf(Method test) {
        Sentence sentence = test.getAnnotation(Sentence.class);
        return "promise " + Arrays.toString(sentence.promise()) + ", \"" + sentence.says() + "\" ("
                + test.getDeclaringClass().getSimpleName() + "." + test.getName() + ")";
    }

    private static void run(Method test) throws IllegalAccessException {
        Boundaries.begin(nameOf(test));
        int before = Boundaries.passed + Boundaries.failed;
        try {
            test.invoke(null);
        } catch (InvocationTargetException thrown) {
            Boundaries.same("threw " + thrown.getCause() + ": that", true, false);
        }
        if (Boundaries.passed + Boundaries.failed == before) {
            Boundaries.same("it looks at an answer: that", false, true);
        }
    }

    private static void compareWithDocument(List<Method> tests, Document document) {
        for (Method test : tests) {
            Boundaries.begin(nameOf(test));
            Sentence sentence = test.getAnnotation(Sentence.class);
            boolean found = document.quote(sentence.promise(), sentence.says());
            Boundaries.same("the document says so: that", found, true);
        }
        Boundaries.begin("the document");
        List<String> untested = document.unquoted();
        for (String words : untested) {
            System.out.println("BoundaryTest: no test stands for: " + words);
        }
        Boundaries.same("pieces that no test stands for", untested.size(), 0);
    }

    public static void main(String[] args) throws IOException, IllegalAccessException {
        if (args.length != 1) {
            System.out.println("BoundaryTest: the path of the document is wanted");
            System.exit(1);
        }
        List<Method> tests = tests();
        for (Method test : tests) {
            run(test);
        }
        Path path = Path.of(args[0]);
        if (Files.isReadable(path)) {
            compareWithDocument(tests, new Document(Files.readString(path)));
        } else {
            System.out.println("BoundaryTest: " + path + " is not there, so the sentences are not looked for");
        }
        System.out.println("BoundaryTest: " + tests.size() + " sentences, " + Boundaries.passed
                + " answers as due, " + Boundaries.failed + " not");
        if (Boundaries.failed > 0) {
            System.exit(1);
        }
    }
}
