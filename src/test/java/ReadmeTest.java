import java.io.IOException;
import java.lang.reflect.InvocationTargetException;
import java.lang.reflect.Method;
import java.lang.reflect.Modifier;
import java.nio.file.Files;
import java.nio.file.Path;
import java.util.Map;
import java.util.Set;
import java.util.TreeMap;
import java.util.TreeSet;
import java.util.regex.Matcher;
import java.util.regex.Pattern;

/**
 * Plays the run that README.md shows: each call must answer what stands behind it, and every call of
 * the face must be in it.
 *
 * Argument: the path of README.md.
 */
public final class ReadmeTest {
    private static final Pattern CALL = Pattern.compile("heap\\.(\\w+)\\((.*)\\); *// (true|false|-?\\d+)\\b.*");

    private ReadmeTest() {
    }

    private static Map<String, Method> face() {
        Map<String, Method> face = new TreeMap<>();
        for (Method method : MasterHeap.class.getDeclaredMethods()) {
            if (Modifier.isPublic(method.getModifiers())) {
                face.put(method.getName(), method);
            }
        }
        return face;
    }

    private static Object[] arguments(Method method, String text) {
        String[] words = text.isEmpty() ? new String[0] : text.split(", ");
        Object[] arguments = new Object[words.length];
        for (int k = 0; k < words.length; k++) {
            boolean truth = method.getParameterTypes()[k] == boolean.class;
            arguments[k] = truth ? (Object) Boolean.valueOf(words[k]) : (Object) Integer.valueOf(words[k]);
        }
        return arguments;
    }

    public static void main(String[] args)
            throws IOException, IllegalAccessException, InvocationTargetException {
        if (args.length != 1) {
            System.out.println("ReadmeTest: the path of README.md is wanted");
            System.exit(1);
        }
        Map<String, Method> face = face();
        Set<String> missing = new TreeSet<>(face.keySet());
        MasterHeap heap = new MasterHeap();
        int calls = 0;
        int wrong = 0;
        for (String line : Files.readAllLines(Path.of(args[0]))) {
            if (!line.startsWith("heap.")) {
                continue;
            }
            calls++;
            Matcher call = CALL.matcher(line);
            Method method = call.matches() ? face.get(call.group(1)) : null;
            String got = method == null ? "nothing: it is no call with an answer"
                    : String.valueOf(method.invoke(heap, arguments(method, call.group(2))));
            if (method == null || !got.equals(call.group(3))) {
                wrong++;
                System.out.println("ReadmeTest: " + line + ": answered " + got);
            } else {
                missing.remove(method.getName());
            }
        }
        System.out.println("ReadmeTest: " + calls + " calls, " + wrong + " not as README.md says; not shown: "
                + missing);
        if (wrong > 0 || !missing.isEmpty()) {
            System.exit(1);
        }
    }
}
