import java.io.ByteArrayOutputStream;
import java.io.PrintStream;
import java.lang.reflect.Method;
import java.net.URL;
import java.net.URLClassLoader;
import java.nio.file.Files;
import java.nio.file.Path;
import java.util.ArrayList;
import java.util.List;
import java.util.regex.Matcher;
import java.util.regex.Pattern;
import java.util.stream.Stream;
import javax.tools.ToolProvider;

/** The example of README.md compiles as it stands there, and prints what stands behind each of its lines. */
public final class ReadmeTest {
    private static final Pattern PRINTS = Pattern.compile("System\\.out\\.println\\((.*)\\);\\s*// (-?\\d+): .*");
    private static int wrong;

    public static void main(String[] args) throws Exception {
        String readme = Files.readString(Path.of("README.md"));
        String example = exampleOf(readme);
        List<String> calls = new ArrayList<>();
        List<String> told = new ArrayList<>();
        for (String line : example.lines().toList()) {
            Matcher prints = PRINTS.matcher(line.trim());
            if (prints.matches()) {
                calls.add(prints.group(1));
                told.add(prints.group(2));
            } else if (line.contains("println")) {
                fault("no answer stands behind " + line.trim());
            }
        }
        compare(calls, told, run(example));
        allAnswersAreShown(told);
        allCallsAreNamed(readme);
        System.out.println(wrong == 0 ? calls.size() + " answers of README.md are as the class gives them"
                : wrong + " faults in README.md");
        if (wrong != 0) {
            System.exit(1);
        }
    }

    private static String exampleOf(String readme) {
        int from = readme.indexOf("```java\n");
        int to = from < 0 ? -1 : readme.indexOf("```\n", from + 8);
        if (to < 0) {
            fault("there is no example");
            return "";
        }
        return readme.substring(from + 8, to);
    }

    private static List<String> run(String example) throws Exception {
        Path folder = Files.createTempDirectory("readme");
        try {
            Path file = folder.resolve("Example.java");
            Files.writeString(file, example);
            int code = ToolProvider.getSystemJavaCompiler().run(null, null, null, "-cp",
                    System.getProperty("java.class.path"), "-d", folder.toString(), file.toString());
            if (code != 0) {
                fault("the example does not compile");
                return List.of();
            }
            return printed(folder);
        } finally {
            try (Stream<Path> files = Files.list(folder)) {
                for (Path file : files.toList()) {
                    Files.delete(file);
                }
            }
            Files.delete(folder);
        }
    }

    private static List<String> printed(Path folder) throws Exception {
        ByteArrayOutputStream bytes = new ByteArrayOutputStream();
        PrintStream before = System.out;
        try (URLClassLoader loader = new URLClassLoader(new URL[] {folder.toUri().toURL()})) {
            Method main = loader.loadClass("Example").getMethod("main", String[].class);
            System.setOut(new PrintStream(bytes, true));
            main.invoke(null, (Object) new String[0]);
        } finally {
            System.setOut(before);
        }
        return bytes.toString().lines().toList();
    }

    private static void compare(List<String> calls, List<String> told, List<String> printed) {
        if (printed.size() != told.size() || told.isEmpty()) {
            fault("the example prints " + printed.size() + " lines, and tells of " + told.size());
            return;
        }
        for (int i = 0; i < told.size(); i++) {
            if (!printed.get(i).equals(told.get(i))) {
                fault(calls.get(i) + " answered " + printed.get(i) + ", README.md says " + told.get(i));
            }
        }
    }

    private static void allAnswersAreShown(List<String> told) {
        int[] answers = {GeyserNerves.BAD, GeyserNerves.STATE, GeyserNerves.FULL, GeyserNerves.NONE};
        for (int answer : answers) {
            if (!told.contains(Integer.toString(answer))) {
                fault("the example does not show the answer " + answer);
            }
        }
    }

    private static void allCallsAreNamed(String readme) {
        for (Method method : GeyserNerves.class.getDeclaredMethods()) {
            if (java.lang.reflect.Modifier.isPublic(method.getModifiers())
                    && !readme.contains("`" + method.getName() + "`")) {
                fault(method.getName() + " is not named");
            }
        }
    }

    private static void fault(String what) {
        wrong++;
        System.out.println(what);
    }
}
