import java.io.IOException;
import java.lang.reflect.Executable;
import java.lang.reflect.Method;
import java.lang.reflect.Modifier;
import java.net.URL;
import java.net.URLClassLoader;
import java.nio.file.Files;
import java.nio.file.Path;
import java.util.ArrayList;
import java.util.Arrays;
import java.util.Comparator;
import java.util.LinkedHashMap;
import java.util.List;
import java.util.Map;
import java.util.Set;
import java.util.TreeSet;
import java.util.regex.Matcher;
import java.util.regex.Pattern;
import java.util.stream.Collectors;
import java.util.stream.Stream;
import javax.tools.JavaCompiler;
import javax.tools.ToolProvider;

/**
 * README.md holds what it says: each call of the face is told with its numbers and its exceptions in their turn, and
 * each line of an example, compiled as it stands there, answers what stands behind it. Run it in the project's folder.
 */
public final class ReadmeTest {
    private static final Path README = Path.of("README.md");
    /** A statement and, up to a colon, what it answers. */
    private static final Pattern LINE = Pattern.compile("(?<told>[^/]*;)\\s*(?:// (?<due>[^:]*)(?::.*)?)?");
    private static final Pattern CALL = Pattern.compile("(?:int (?<name>\\w+) = )?(?<call>\\w+\\.(?<method>\\w+)\\(.*\\));");
    private static final Pattern ROW = Pattern.compile("\\| `(?:new )?(\\w+)\\((.*?)\\)` \\| (.*) \\| (.*) \\|");
    private static final Pattern EXCEPTION = Pattern.compile("\\w+Exception");

    public static void main(String[] args) throws Exception {
        String readme = Files.readString(README);
        List<Executable> face = new ArrayList<>(Arrays.asList(PlankUnroll.class.getConstructors()));
        for (Method each : PlankUnroll.class.getDeclaredMethods()) {
            if (Modifier.isPublic(each.getModifiers())) {
                face.add(each);
            }
        }
        rows(readme, face);
        Set<String> shown = new TreeSet<>(Set.of("PlankUnroll"));
        Matcher blocks = Pattern.compile("(?s)```java\n(.*?)```").matcher(readme);
        int count = 0;
        while (blocks.find()) {
            example(++count, blocks.group(1).split("\n"), shown);
        }
        for (Executable each : face) {
            Due.same("an example shows " + each.getName(), true, shown.contains(each.getName()));
        }
        Due.end("ReadmeTest");
    }

    /** One row for each call of the face, with the types that it takes and the exceptions in the document's turn. */
    private static void rows(String readme, List<Executable> face) {
        Map<String, String> told = new LinkedHashMap<>();
        Matcher rows = ROW.matcher(readme);
        while (rows.find()) {
            String types = Stream.of(rows.group(2).split(", ")).map(each -> each.split(" ")[0])
                .collect(Collectors.joining(","));
            String before = told.put(rows.group(1), types + named(rows.group(4)));
            Due.same(rows.group(1) + " is told once", "once", before == null ? "once" : before);
        }
        for (Executable each : face) {
            String types = Stream.of(each.getParameterTypes()).map(Class::getName).collect(Collectors.joining(","));
            String thrown = Stream.of(each.getExceptionTypes()).map(Class::getSimpleName).toList().toString();
            Due.same("the row of " + each.getName(), types + thrown, String.valueOf(told.remove(each.getName())));
        }
        Due.same("rows of no call", "[]", told.keySet().toString());
    }

    private static List<String> named(String text) {
        List<String> names = new ArrayList<>();
        Matcher found = EXCEPTION.matcher(text);
        while (found.find()) {
            names.add(found.group());
        }
        return names;
    }

    private static void example(int number, String[] lines, Set<String> shown) throws Exception {
        StringBuilder body = new StringBuilder();
        List<String> calls = new ArrayList<>();
        List<String> due = new ArrayList<>();
        for (String line : lines) {
            Matcher told = LINE.matcher(line);
            if (!told.matches()) {
                Due.same("example " + number + ": " + line, "a statement and its answer", "another line");
                return;
            }
            Matcher call = CALL.matcher(told.group("told"));
            if (!call.matches()) {
                body.append(told.group("told")).append('\n');
                continue;
            }
            shown.add(call.group("method"));
            calls.add(call.group("call"));
            due.add(String.valueOf(told.group("due")).strip());
            if (call.group("name") == null) {
                body.append("answers.add(of(() -> ").append(call.group("call")).append("));\n");
            } else {
                body.append(call.group()).append("\nanswers.add(\"\" + ").append(call.group("name")).append(");\n");
            }
        }
        List<?> got = answersOf(body.toString());
        Due.same("example " + number + " asks something", true, !calls.isEmpty() && got.size() == calls.size());
        for (int i = 0; i < got.size(); i++) {
            Due.same("example " + number + ": " + calls.get(i), due.get(i), got.get(i));
        }
    }

    private static List<?> answersOf(String body) throws Exception {
        Path folder = Files.createTempDirectory("readme");
        try {
            Path source = folder.resolve("Example.java");
            Files.writeString(source, "import java.util.*;\nimport java.util.concurrent.Callable;\n"
                + "public final class Example {\n"
                + "private static String of(Callable<Object> asked) {\n"
                + "try { return \"\" + asked.call(); } catch (Exception e) { return e.getClass().getSimpleName(); } }\n"
                + "public static List<String> answers() {\nList<String> answers = new ArrayList<>();\n"
                + body + "return answers; } }\n");
            JavaCompiler compiler = ToolProvider.getSystemJavaCompiler();
            int failed = compiler.run(null, null, null, "-d", folder.toString(), "-cp",
                System.getProperty("java.class.path"), source.toString());
            Due.same("an example is compiled", 0, failed);
            if (failed != 0) {
                return List.of();
            }
            try (URLClassLoader loader = new URLClassLoader(new URL[] {folder.toUri().toURL()})) {
                return (List<?>) loader.loadClass("Example").getMethod("answers").invoke(null);
            }
        } finally {
            remove(folder);
        }
    }

    private static void remove(Path folder) throws IOException {
        List<Path> all;
        try (Stream<Path> walked = Files.walk(folder)) {
            all = walked.sorted(Comparator.reverseOrder()).toList();
        }
        for (Path each : all) {
            Files.delete(each);
        }
    }
}
