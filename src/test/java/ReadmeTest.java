import java.io.File;
import java.nio.file.Files;
import java.nio.file.Path;
import java.util.regex.Matcher;
import java.util.regex.Pattern;
import javax.tools.ToolProvider;

/** README.md's examples, compiled and run: each call answers what the comment behind it says. */
public final class ReadmeTest {
    private static final Pattern BLOCK = Pattern.compile("```java\n(.*?)```", Pattern.DOTALL);
    private static final Pattern LINE = Pattern.compile("(int (\\w+) = )?(.*); +// (-?\\d+|true|false): .*");

    public static void main(String[] args) throws Exception {
        Check.part("readme");
        String classes = System.getProperty("java.class.path").split(File.pathSeparator)[0];
        Path source = Path.of(classes, "ReadmeRun.java");
        Files.writeString(source, program(Files.readString(Path.of("README.md"))));
        int failed = ToolProvider.getSystemJavaCompiler().run(null, null, null, "-cp", classes, "-d", classes, source.toString());
        Files.delete(source);
        Check.due("the examples compile", failed, 0);
        if (failed == 0) {
            Class.forName("ReadmeRun").getDeclaredMethod("run").invoke(null);
        }
        Check.finish("ReadmeTest");
    }

    private static String program(String readme) {
        StringBuilder program = new StringBuilder("final class ReadmeRun {\n    static void run() {\n");
        Matcher block = BLOCK.matcher(readme);
        while (block.find()) {
            block.group(1).lines().forEach(line -> program.append(checked(line)).append("\n"));
        }
        return program.append("    }\n}\n").toString();
    }

    private static String checked(String line) {
        Matcher m = LINE.matcher(line);
        if (!m.matches()) {
            return line;
        }
        boolean named = m.group(1) != null;
        String call = named ? m.group(2) : m.group(3);
        String due = "Check.due(\"" + m.group(3) + "\", " + call + ", " + m.group(4) + ");";
        return named ? m.group(1) + m.group(3) + "; " + due : due;
    }
}
