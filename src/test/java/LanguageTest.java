import java.io.IOException;
import java.lang.reflect.Constructor;
import java.lang.reflect.Field;
import java.lang.reflect.Method;
import java.lang.reflect.Modifier;
import java.nio.file.Files;
import java.nio.file.Path;
import java.util.ArrayList;
import java.util.Arrays;
import java.util.List;
import java.util.Set;
import java.util.TreeSet;
import java.util.regex.Matcher;
import java.util.regex.Pattern;

/** The rules of LANGUAGE.md that a program can look at: the face, the words, the lengths. */
public final class LanguageTest {
    private static final String[] FACE = {
        "boolean start(int,int)", "int make(int,int)", "int put(int,int,int)", "int set(int,int,int)",
        "boolean touch(int)", "int lock(int)", "int unlock(int)", "int high(int)",
        "boolean mark(int,boolean)", "boolean drop(int)", "int least(int,int)", "boolean purge(int)",
        "int remake(int)", "int resize(int,int)", "int fix(int)", "boolean unfix(int)",
        "int reserve(int)", "int compact()", "int policy(int)", "int undo()", "int handle(int,int)",
        "int get(int,int)", "int pointer(int,int)", "int cell(int)", "int block(int,int)",
        "int free(int)", "int would(int,int)", "int greatest(int)", "int fewest(int,int)",
        "boolean three(int,int,int)", "int cheapest(int,int)", "int after(int)", "int order(int)",
        "int torn(int,int)", "int count(int)"};
    private static int wrong = 0;

    private static void expect(boolean is, String what) {
        if (!is) {
            wrong++;
            System.out.println("LanguageTest: " + what);
        }
    }

    private static String signature(Method m) {
        List<String> types = new ArrayList<>();
        for (Class<?> type : m.getParameterTypes()) {
            types.add(type.getName());
        }
        return m.getReturnType().getName() + " " + m.getName() + "(" + String.join(",", types) + ")";
    }

    private static void face() {
        Class<?> face = MasterHeap.class;
        expect(Modifier.isPublic(face.getModifiers()) && Modifier.isFinal(face.getModifiers()),
                "rule 1: the class is public and final");
        Set<String> publics = new TreeSet<>();
        Set<String> names = new TreeSet<>();
        for (Method m : face.getDeclaredMethods()) {
            if (Modifier.isPublic(m.getModifiers())) {
                publics.add(signature(m));
                names.add(m.getName());
                expect(!Modifier.isStatic(m.getModifiers()), "rule 1: " + m + " is static");
            } else {
                expect(Modifier.isPrivate(m.getModifiers()), "rule 1: " + m + " is not private");
            }
        }
        expect(publics.equals(new TreeSet<>(Arrays.asList(FACE))), "rule 1: the face is " + publics);
        for (Field f : face.getDeclaredFields()) {
            boolean isNone = f.getName().equals("NONE");
            expect(isNone == Modifier.isPublic(f.getModifiers()), "rule 1: " + f + " is public or not");
            expect(isNone || Modifier.isPrivate(f.getModifiers()), "rule 1: " + f + " is not private");
        }
        Constructor<?>[] constructors = face.getDeclaredConstructors();
        expect(constructors.length == 1 && Modifier.isPublic(constructors[0].getModifiers())
                && constructors[0].getParameterCount() == 0, "rule 1: the constructor");
        List<Class<?>> classes = new ArrayList<>(Arrays.asList(face.getDeclaredClasses()));
        expect(classes.size() < 12, "rule 11: at most some twelve classes");
        for (Class<?> inside : classes) {
            expect(Modifier.isStatic(inside.getModifiers()), "rule 2: " + inside + " is not static");
            expect(!Modifier.isPublic(inside.getModifiers()), "rule 1: " + inside + " is public");
        }
        classes.add(face);
        for (Class<?> c : classes) {
            members(c, names);
        }
    }

    private static void members(Class<?> c, Set<String> publicNames) {
        int fields = 0;
        for (Field f : c.getDeclaredFields()) {
            if (Modifier.isStatic(f.getModifiers())) {
                expect(Modifier.isFinal(f.getModifiers()), "rule 5: " + f + " is not final");
            } else {
                fields++;
            }
        }
        expect(fields <= 20, "rule 11: " + c + " has " + fields + " fields");
        for (Method m : c.getDeclaredMethods()) {
            expect(m.getParameterCount() <= 7, "rule 11: " + m + " takes too many");
            expect(c == MasterHeap.class || !publicNames.contains(m.getName()),
                    "rule 1: " + m + " bears the name of a public one");
        }
    }

    private static void words(String source) {
        String code = source.replaceAll("(?s)/\\*.*?\\*/", "").replaceAll("//[^\n]*", "");
        String[] words = {"throw", "throws", "try", "catch", "finally", "synchronized", "assert", "import",
            "package", "protected", "Exact", "->", "::", "hashCode", "toString", "Object", "Random",
            "Thread", "nanoTime", "currentTimeMillis", "volatile", "native", "goto", "var"};
        for (String word : words) {
            String pattern = Character.isLetter(word.charAt(0)) ? "\\b\\w*" + word + "\\b" : Pattern.quote(word);
            if (!word.equals("Exact")) {
                pattern = pattern.replace("\\b\\w*", "\\b");
            }
            expect(!Pattern.compile(pattern).matcher(code).find(), "rules 3, 4, 6 and 13: the code has " + word);
        }
        Matcher library = Pattern.compile("\\b(Math|Integer|System|Long|Arrays)\\.(\\w+)").matcher(code);
        List<String> allowed = List.of("max", "min", "floorMod", "bitCount", "arraycopy");
        while (library.find()) {
            expect(allowed.contains(library.group(2)), "rule 4: " + library.group());
        }
        for (int k = 0; k < source.length(); k++) {
            expect(source.charAt(k) < 128, "rule 4: sign " + k + " of the source is above 127");
        }
    }

    private static void lengths(String source) {
        String[] lines = source.split("\n");
        int begin = -1;
        for (int k = 0; k < lines.length; k++) {
            String line = lines[k];
            if (line.matches("( {4}| {8})\\S.*\\) \\{")) {
                begin = k;
            }
            if (line.matches("( {4}| {8})\\}") && begin >= 0) {
                expect(k - begin < 60, "rule 11: the method at line " + (begin + 1) + " is long");
                begin = -1;
            }
            expect(line.length() <= 120, "line " + (k + 1) + " is long");
        }
    }

    public static void main(String[] args) throws IOException {
        String source = Files.readString(Path.of(args[0]));
        face();
        words(source);
        lengths(source);
        System.out.println(wrong == 0 ? "LanguageTest: the rules are kept" : "LanguageTest: " + wrong + " breaches");
        if (wrong > 0) {
            System.exit(1);
        }
    }
}
