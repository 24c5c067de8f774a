import java.io.IOException;
import java.lang.reflect.Method;
import java.lang.reflect.Modifier;
import java.nio.file.Files;
import java.nio.file.Path;
import java.util.ArrayList;
import java.util.List;
import java.util.regex.Matcher;
import java.util.regex.Pattern;

/** README.md tells the truth: its example answers what its comments say, its table what each call throws. */
public final class ReadmeTest {
    private static final Pattern PRINTED = Pattern.compile("System\\.out\\.println\\(.*// (.*)");
    private static final Pattern EXCEPTION = Pattern.compile("`(\\w+Exception)`");

    private static final Check CHECK = new Check();

    public static void main(String[] args) throws IOException, InterruptedException {
        List<String> readme = Files.readAllLines(Path.of("README.md"));
        List<String> example = example(readme);
        CHECK.same("the example", printed(example), said(example));
        for (Method m : PageStore.class.getDeclaredMethods()) {
            if (Modifier.isPublic(m.getModifiers())) {
                CHECK.same("what " + m.getName() + " throws", inTable(readme, m.getName()), declared(m));
            }
        }
        CHECK.end();
    }

    private static List<String> example(List<String> readme) {
        int start = readme.indexOf("```java") + 1;
        List<String> behind = readme.subList(start, readme.size());
        return behind.subList(0, behind.indexOf("```"));
    }

    private static String said(List<String> example) {
        List<String> said = new ArrayList<>();
        for (String line : example) {
            Matcher m = PRINTED.matcher(line);
            if (m.find()) {
                said.add(m.group(1));
            }
        }
        return said.toString();
    }

    /** What the example prints as a program of its own, or what stops it. */
    private static String printed(List<String> example) throws IOException, InterruptedException {
        Path source = Files.createTempFile("Example", ".java");
        try {
            String body = String.join("\n", example);
            Files.writeString(source, "class Example { public static void main(String[] args) {\n" + body + "\n}}\n");
            String java = Path.of(System.getProperty("java.home"), "bin", "java").toString();
            String classes = System.getProperty("java.class.path");
            ProcessBuilder program = new ProcessBuilder(java, "-cp", classes, source.toString());
            Process run = program.redirectErrorStream(true).start();
            String text = new String(run.getInputStream().readAllBytes());
            run.waitFor();
            return text.lines().toList().toString();
        } finally {
            Files.delete(source);
        }
    }

    private static String inTable(List<String> readme, String name) {
        List<String> thrown = new ArrayList<>();
        for (String line : readme) {
            if (line.startsWith("| `" + name + "(")) {
                Matcher m = EXCEPTION.matcher(line);
                while (m.find()) {
                    thrown.add(m.group(1));
                }
            }
        }
        return thrown.toString();
    }

    private static String declared(Method m) {
        List<String> names = new ArrayList<>();
        for (Class<?> c : m.getExceptionTypes()) {
            names.add(c.getSimpleName());
        }
        return names.toString();
    }
}
