import java.io.ByteArrayOutputStream;
import java.io.IOException;
import java.io.PrintStream;
import java.lang.reflect.Method;
import java.lang.reflect.Modifier;
import java.net.URL;
import java.net.URLClassLoader;
import java.nio.charset.StandardCharsets;
import java.nio.file.Files;
import java.nio.file.Path;
import java.util.ArrayList;
import java.util.Arrays;
import java.util.List;
import java.util.Map;
import java.util.Set;
import java.util.TreeMap;
import java.util.TreeSet;
import java.util.regex.Matcher;
import java.util.regex.Pattern;
import javax.tools.ToolProvider;

/** README.md against the class: its program, its rows of calls, and its table of the calls. */
public final class ReadmeTest {
    private static final String NEW = "GalleyConvoy x = new GalleyConvoy();";
    private static final Pattern ROW = Pattern.compile("x\\.(\\w+)\\(([^)]*)\\); *// (-?\\d+)(:.*)?");
    private static final Pattern TABLE_ROW = Pattern.compile("\\| `(\\w+)\\(([^)]*)\\)` \\| (-?\\d+) \\|.*");

    private final List<String> lines;
    private final Map<String, Method> face = new TreeMap<>();

    private ReadmeTest(List<String> lines) {
        this.lines = lines;
        for (Method m : GalleyConvoy.class.getDeclaredMethods()) {
            if (Modifier.isPublic(m.getModifiers())) {
                face.put(m.getName(), m);
            }
        }
    }

    public static void main(String[] args) throws Exception {
        ReadmeTest readme = new ReadmeTest(Files.readAllLines(Path.of("README.md")));
        readme.programPrintsWhatItSays();
        readme.rowsAnswerWhatTheySay();
        readme.tableHasEveryCallWithItsBad();
        readme.testsAreNamed();
        Due.end();
    }

    /** The blocks of one language. */
    private List<List<String>> blocks(String language) {
        List<List<String>> found = new ArrayList<>();
        List<String> open = null;
        for (String line : lines) {
            if (open != null && line.equals("```")) {
                open = null;
            } else if (open != null) {
                open.add(line);
            } else if (line.equals("```" + language)) {
                open = new ArrayList<>();
                found.add(open);
            }
        }
        return found;
    }

    private void programPrintsWhatItSays() throws Exception {
        List<List<String>> programs = blocks("java").stream().filter(b -> b.get(0).equals("public class Voyage {")).toList();
        List<List<String>> printed = blocks("text");
        Due.due("programs", programs.size(), 1);
        Due.due("texts that are printed", printed.size(), 1);
        if (programs.size() == 1 && printed.size() == 1) {
            List<String> got = printedBy(programs.get(0));
            Due.due("Voyage prints " + got + " for " + printed.get(0), got.equals(printed.get(0)) ? 1 : 0, 1);
        }
    }

    private static List<String> printedBy(List<String> program) throws Exception {
        Path directory = Files.createTempDirectory("voyage");
        try {
            Path source = directory.resolve("Voyage.java");
            Files.write(source, program);
            Due.due("javac of Voyage", ToolProvider.getSystemJavaCompiler().run(null, null, null, "-cp",
                    System.getProperty("java.class.path"), "-d", directory.toString(), source.toString()), 0);
            return printedByMain(directory);
        } finally {
            for (String file : new String[] {"Voyage.java", "Voyage.class"}) {
                Files.deleteIfExists(directory.resolve(file));
            }
            Files.delete(directory);
        }
    }

    private static List<String> printedByMain(Path directory) throws IOException, ReflectiveOperationException {
        PrintStream usual = System.out;
        ByteArrayOutputStream bytes = new ByteArrayOutputStream();
        try (URLClassLoader loader = new URLClassLoader(new URL[] {directory.toUri().toURL()})) {
            System.setOut(new PrintStream(bytes, true, StandardCharsets.UTF_8));
            loader.loadClass("Voyage").getMethod("main", String[].class).invoke(null, (Object) new String[0]);
        } finally {
            System.setOut(usual);
        }
        return bytes.toString(StandardCharsets.UTF_8).lines().toList();
    }

    private void rowsAnswerWhatTheySay() throws ReflectiveOperationException {
        Set<String> called = new TreeSet<>();
        for (List<String> block : blocks("java")) {
            if (block.get(0).equals(NEW)) {
                GalleyConvoy x = new GalleyConvoy();
                for (String line : block.subList(1, block.size())) {
                    Matcher row = ROW.matcher(line);
                    boolean isRow = row.matches() && face.containsKey(row.group(1));
                    Due.due("a row: " + line, isRow ? 1 : 0, 1);
                    if (isRow) {
                        Due.due(line, call(x, row.group(1), numbers(row.group(2))), Integer.parseInt(row.group(3)));
                        called.add(row.group(1));
                    }
                }
            }
        }
        Due.due("calls that have a row: " + called, called.equals(face.keySet()) ? 1 : 0, 1);
    }

    private static Object[] numbers(String list) {
        return Arrays.stream(list.split(", ")).map(Integer::valueOf).toArray();
    }

    private int call(GalleyConvoy x, String name, Object[] numbers) throws ReflectiveOperationException {
        return (Integer) face.get(name).invoke(x, numbers);
    }

    /** No person, port, galley, bale or number is as low as the least int: all calls answer BAD to it. */
    private void tableHasEveryCallWithItsBad() throws ReflectiveOperationException {
        List<String> named = new ArrayList<>();
        for (String line : lines) {
            Matcher row = TABLE_ROW.matcher(line);
            if (row.matches() && face.containsKey(row.group(1))) {
                Object[] least = new Object[row.group(2).split(", ").length];
                Arrays.fill(least, Integer.MIN_VALUE);
                Due.due("parameters: " + line, least.length, face.get(row.group(1)).getParameterCount());
                Due.due("BAD: " + line, call(new GalleyConvoy(), row.group(1), least), Integer.parseInt(row.group(3)));
                named.add(row.group(1));
            }
        }
        Due.due("calls in the table: " + named, named.size(), face.size());
        Due.due("each once", new TreeSet<>(named).size(), face.size());
    }

    private void testsAreNamed() throws IOException {
        String page = String.join("\n", lines);
        try (var files = Files.list(Path.of("src/test/java"))) {
            for (Path file : files.sorted().toList()) {
                String name = file.getFileName().toString().replace(".java", "");
                Due.due("README.md names " + name, page.contains("`" + name + "`") || page.contains("`" + name + ".") ? 1 : 0, 1);
            }
        }
    }
}
