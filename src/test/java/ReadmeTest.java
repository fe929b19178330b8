import java.lang.reflect.Method;
import java.lang.reflect.Modifier;
import java.net.URL;
import java.net.URLClassLoader;
import java.nio.file.Files;
import java.nio.file.Path;
import java.util.ArrayList;
import java.util.Comparator;
import java.util.List;
import java.util.regex.Matcher;
import java.util.regex.Pattern;
import java.util.stream.Stream;
import javax.tools.ToolProvider;

/** README.md: its example is compiled and run, and answers what it says; its table names every call. */
public final class ReadmeTest {
    private static final Pattern ANSWERED = Pattern.compile("(?:int (\\w+) = )?(plans\\..*);\\s+// (-?\\d+)(?::.*)?");

    public static void main(String[] args) throws Exception {
        Due due = new Due();
        List<String> readme = Files.readAllLines(Path.of("README.md"));
        example(due, block(readme));
        table(due, readme);
        due.finish();
    }

    private static List<String> block(List<String> readme) {
        int from = readme.indexOf("```java") + 1;
        List<String> rest = readme.subList(from, readme.size());
        return rest.subList(0, rest.indexOf("```"));
    }

    private static void example(Due due, List<String> lines) throws Exception {
        List<String> calls = new ArrayList<>();
        List<Long> wanted = new ArrayList<>();
        StringBuilder body = new StringBuilder();
        for (String line : lines) {
            Matcher answered = ANSWERED.matcher(line);
            if (answered.matches()) {
                calls.add(answered.group(2));
                wanted.add(Long.parseLong(answered.group(3)));
                body.append(keeping(answered));
            } else {
                due.holds("an answer stands at: " + line, !line.contains("plans."));
                body.append(line).append('\n');
            }
        }
        due.holds("the example has answers", !wanted.isEmpty());
        List<Long> got = wanted.isEmpty() ? wanted : answers(body.toString());
        due.is("answers", got.size(), wanted.size());
        for (int i = 0; i < got.size(); i++) {
            due.is(calls.get(i), got.get(i), wanted.get(i));
        }
    }

    /** The example's line, which also notes its answer. */
    private static String keeping(Matcher line) {
        String name = line.group(1);
        String call = line.group(2);
        return name == null
            ? "answers.add((long) " + call + ");\n"
            : "int " + name + " = " + call + ";\nanswers.add((long) " + name + ");\n";
    }

    private static List<Long> answers(String body) throws Exception {
        Path out = Files.createTempDirectory("readme");
        try {
            Path source = out.resolve("Example.java");
            Files.writeString(source, "public final class Example {\n"
                + "public static void run(java.util.List<Long> answers) {\n" + body + "}\n}\n");
            List<Long> answers = new ArrayList<>();
            int compiled = ToolProvider.getSystemJavaCompiler().run(null, null, null,
                "-cp", System.getProperty("java.class.path"), "-d", out.toString(), source.toString());
            if (compiled == 0) {
                try (URLClassLoader loader = new URLClassLoader(new URL[] {out.toUri().toURL()})) {
                    loader.loadClass("Example").getMethod("run", List.class).invoke(null, answers);
                }
            }
            return answers;
        } finally {
            remove(out);
        }
    }

    private static void remove(Path out) throws Exception {
        try (Stream<Path> inside = Files.walk(out)) {
            for (Path path : inside.sorted(Comparator.reverseOrder()).toList()) {
                Files.delete(path);
            }
        }
    }

    private static void table(Due due, List<String> readme) {
        for (Method method : ScoreDifferences.class.getDeclaredMethods()) {
            if (Modifier.isPublic(method.getModifiers())) {
                Pattern row = Pattern.compile("\\| `" + method.getName() + "\\(((?:\\w+(?:, )?)*)\\)` \\|.*");
                due.is("rows of " + method.getName(), rows(readme, row, method.getParameterCount()), 1);
            }
        }
    }

    private static int rows(List<String> readme, Pattern row, int parameters) {
        int count = 0;
        for (String line : readme) {
            Matcher matched = row.matcher(line);
            if (matched.matches()) {
                String names = matched.group(1);
                count += (names.isEmpty() ? 0 : names.split(", ").length) == parameters ? 1 : 0;
            }
        }
        return count;
    }
}
