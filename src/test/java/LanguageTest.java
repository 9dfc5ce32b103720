import java.io.IOException;
import java.lang.reflect.Constructor;
import java.lang.reflect.Field;
import java.lang.reflect.Method;
import java.lang.reflect.Modifier;
import java.nio.file.Files;
import java.nio.file.Path;
import java.util.ArrayList;
import java.util.Arrays;
import java.util.HashSet;
import java.util.List;
import java.util.Set;
import java.util.TreeSet;
import java.util.regex.Matcher;
import java.util.regex.Pattern;
import java.util.stream.Stream;

/** The rules of LANGUAGE.md that can be seen in the source or by reflection. */
public final class LanguageTest {
    private static final String[] FACE = {
        "int state(int)", "boolean canal(int)", "boolean pool(int,int)", "boolean lock(int,int,int)", "int boat(int,int,int)",
        "boolean load(int,int,int)", "boolean set(int,int)", "int feed(int,int,int,int,int)", "boolean end(int)", "int text(int)",
        "int fault(int)", "int pass(int,boolean,int)", "int give(int,int,int,int)", "int pull(int,int)", "int hours(int)",
        "int run()", "int depth(int)", "int at(int,int)", "int of(int,int)", "int book(int,int)", "int far(int,boolean,int)",
        "int please(int,int,int,int)", "int said(int,int,int)", "int range(int,int)", "boolean tell(int,int,int)",
        "int pulled(int)", "int mend(int)", "int order(int,boolean,int)", "int share(int,boolean)", "int later(int,int,int,int)",
        "int envy()", "int smile(int)", "int planned(int)", "boolean undo()", "boolean image(boolean)", "int look(int)"};
    private static final String[] FORBIDDEN = {"throw", "throws", "try", "catch", "synchronized", "assert", "->", "::", "Exact",
        "protected", "volatile", "transient", "native", "hashCode", "toString", "static {", "System.out", "Object", "Random",
        "Thread", "Exception"};
    private static final int LONGEST_METHOD = 60;
    private static final int MOST_CLASSES = 12;
    private static final int MOST_FIELDS = 20;
    private static final int MOST_PARAMETERS = 7;

    public static void main(String[] args) throws IOException {
        Check.part("language");
        oneFile();
        String source = Files.readString(Path.of("src/main/java/LockWives.java"));
        String code = withoutTextsAndComments(source);
        words(code);
        signs(source);
        imports(code);
        methodLengths(code);
        face();
        classes();
        Check.finish("LanguageTest");
    }

    /** All Java files of the project but the tests: the program is one file. */
    private static void oneFile() throws IOException {
        try (Stream<Path> all = Files.walk(Path.of(""))) {
            List<Path> program = all.filter(p -> p.toString().endsWith(".java") && !p.startsWith("src/test/java")).toList();
            Check.due("the program's files: " + program, program.equals(List.of(Path.of("src/main/java/LockWives.java"))), true);
        }
    }

    private static String withoutTextsAndComments(String source) {
        Matcher m = Pattern.compile("\"(\\\\.|[^\"\\\\])*\"|'(\\\\.|[^'\\\\])'|//[^\n]*|/\\*.*?\\*/", Pattern.DOTALL).matcher(source);
        return m.replaceAll(r -> r.group().startsWith("\"") ? "\"\"" : r.group().startsWith("'") ? "'x'"
            : r.group().replaceAll("[^\n]", ""));
    }

    private static void words(String code) {
        for (String word : FORBIDDEN) {
            String pattern = word.matches("\\w+") ? "\\b" + word + "\\b" : Pattern.quote(word);
            Check.due("forbidden: " + word, Pattern.compile(pattern).matcher(code).find(), false);
        }
        Check.due("texts joined by +", Pattern.compile("\"\"\\s*\\+|\\+\\s*\"\"").matcher(code).find(), false);
    }

    private static void signs(String source) {
        Check.due("only plain signs", source.chars().allMatch(c -> c >= 1 && c <= 127), true);
    }

    private static void imports(String code) {
        Matcher m = Pattern.compile("import ([^;]*);").matcher(code);
        while (m.find()) {
            Check.due("import " + m.group(1), m.group(1).equals("java.util.Arrays"), true);
        }
        Matcher libraries = Pattern.compile("\\b(System|Arrays|Math|Integer|Long)\\.(\\w+)").matcher(code);
        List<String> known = Arrays.asList("arraycopy", "fill", "max", "min", "bitCount", "compare");
        while (libraries.find()) {
            Check.due("library " + libraries.group(), known.contains(libraries.group(2)), true);
        }
    }

    private static void methodLengths(String code) {
        String[] lines = code.split("\n", -1);
        for (int i = 0; i < lines.length; i++) {
            boolean begins = lines[i].matches(" {4,8}[\\w\\[\\] ]+\\([^;]*\\) \\{") && !lines[i].matches(".*\\b(if|for|while|switch|new)\\b.*");
            if (!begins) {
                continue;
            }
            String closing = lines[i].substring(0, lines[i].indexOf(lines[i].trim())) + "}";
            int end = i;
            while (!lines[end].equals(closing)) {
                end++;
            }
            Check.due("length of" + lines[i], end - i + 1 <= LONGEST_METHOD, true);
        }
    }

    private static String signature(Method m) {
        List<String> types = new ArrayList<>();
        for (Class<?> type : m.getParameterTypes()) {
            types.add(type.getName());
        }
        return m.getReturnType().getName() + " " + m.getName() + "(" + String.join(",", types) + ")";
    }

    private static void face() {
        Check.due("public and final", LockWives.class.getModifiers() & (Modifier.PUBLIC | Modifier.FINAL),
            Modifier.PUBLIC | Modifier.FINAL);
        Set<String> found = new TreeSet<>();
        Set<String> names = new HashSet<>();
        for (Method m : LockWives.class.getDeclaredMethods()) {
            if (!Modifier.isPrivate(m.getModifiers())) {
                found.add(signature(m));
                names.add(m.getName());
                Check.due("public: " + m, Modifier.isPublic(m.getModifiers()), true);
            }
        }
        Check.due("the face", found.equals(new TreeSet<>(Arrays.asList(FACE))), true);
        for (Class<?> c : allClasses()) {
            for (Method m : c.getDeclaredMethods()) {
                boolean hidden = c != LockWives.class || Modifier.isPrivate(m.getModifiers());
                Check.due("bears a public name: " + m, hidden && names.contains(m.getName()), false);
            }
        }
        for (Field f : LockWives.class.getDeclaredFields()) {
            Check.due("field " + f, Modifier.isPrivate(f.getModifiers()) || f.getName().equals("NONE"), true);
        }
        Constructor<?>[] constructors = LockWives.class.getDeclaredConstructors();
        Check.due("one constructor", constructors.length, 1);
        Check.due("without parameters", constructors[0].getParameterCount(), 0);
    }

    private static List<Class<?>> allClasses() {
        List<Class<?>> all = new ArrayList<>(Arrays.asList(LockWives.class.getDeclaredClasses()));
        all.add(LockWives.class);
        return all;
    }

    private static void classes() {
        Check.due("classes", allClasses().size() <= MOST_CLASSES, true);
        for (Class<?> c : allClasses()) {
            boolean own = c == LockWives.class;
            Check.due("static: " + c, own || Modifier.isStatic(c.getModifiers()), true);
            Check.due("hidden: " + c, own || !Modifier.isPublic(c.getModifiers()), true);
            int fields = 0;
            for (Field f : c.getDeclaredFields()) {
                boolean constant = Modifier.isStatic(f.getModifiers());
                fields += constant ? 0 : 1;
                Check.due("final: " + f, !constant || Modifier.isFinal(f.getModifiers()), true);
            }
            Check.due("fields of " + c, fields <= MOST_FIELDS, true);
            for (Method m : c.getDeclaredMethods()) {
                Check.due("parameters of " + m, m.getParameterCount() <= MOST_PARAMETERS, true);
            }
        }
    }
}
