import java.io.IOException;
import java.lang.reflect.Method;
import java.lang.reflect.Modifier;
import java.nio.file.Files;
import java.nio.file.Path;
import java.util.ArrayList;
import java.util.Arrays;
import java.util.List;
import java.util.Map;
import java.util.TreeMap;
import java.util.TreeSet;
import java.util.stream.Collectors;
import java.util.stream.Stream;

/** What README.md says holds: its example, its commands and its table of calls. */
public final class ReadmeTests {
    private static final Map<Class<?>, String> LETTERS = Map.of(IndexOutOfBoundsException.class, "B",
            IllegalArgumentException.class, "A", IllegalStateException.class, "S");

    private static final Check check = new Check();
    private static final Path desk = newFolder();

    public static void main(String[] args) throws Exception {
        List<String> lines = Files.readAllLines(Path.of("README.md"));
        layOutDesk();
        example(lines);
        oneTestAlone(lines);
        sharedTestIsThere(lines);
        testsNamed(lines);
        calls(lines);
        removeDesk();
        check.end();
    }

    // ---- the example and the commands

    private static void example(List<String> lines) throws Exception {
        check.part("the example");
        Files.write(desk.resolve("Example.java"), blocks(lines, "java").get(0));
        check.same("what it prints", printedBy(blocks(lines, "sh").get(0)), blocks(lines, "text").get(0));
    }

    private static void oneTestAlone(List<String> lines) throws Exception {
        check.part("one test alone");
        List<String> printed = printedBy(blocks(lines, "sh").get(1));
        String last = printed.isEmpty() ? "" : printed.get(printed.size() - 1);
        check.same("'" + last + "' tells of no wrong one", last.endsWith(" checks, 0 wrong"), true);
    }

    /** It is run by .ci/run; here, that the commands name what is there. */
    private static void sharedTestIsThere(List<String> lines) {
        check.part("one shared test alone");
        for (String line : blocks(lines, "sh").get(2)) {
            for (String word : line.split(" ")) {
                if (word.endsWith(".java")) {
                    check.same(word + " is there", Files.exists(Path.of(word)), true);
                }
            }
        }
    }

    private static List<List<String>> blocks(List<String> lines, String language) {
        List<List<String>> found = new ArrayList<>();
        for (int start = lines.indexOf("```" + language); start >= 0 && start < lines.size(); start++) {
            if (lines.get(start).equals("```" + language)) {
                List<String> rest = lines.subList(start + 1, lines.size());
                found.add(rest.subList(0, rest.indexOf("```")));
            }
        }
        return found;
    }

    /** With the exit code behind it unless it is 0; what a tool says beside its output is let through, not compared. */
    private static List<String> printedBy(List<String> commands) throws Exception {
        Process p = new ProcessBuilder("sh", "-ec", String.join("\n", commands)).directory(desk.toFile())
                .redirectError(ProcessBuilder.Redirect.INHERIT).start();
        p.getOutputStream().close();
        List<String> printed = new ArrayList<>(p.inputReader().lines().toList());
        int code = p.waitFor();
        if (code != 0) {
            printed.add("exit code " + code);
        }
        return printed;
    }

    // ---- the tables

    private static void testsNamed(List<String> lines) throws IOException {
        check.part("the table of tests");
        List<String> named = rows(lines, "test").stream().map(row -> row.get(0)).sorted().toList();
        try (Stream<Path> files = Files.list(Path.of("src/test/java"))) {
            List<String> there = files.map(f -> f.getFileName().toString()).filter(f -> f.endsWith("Tests.java"))
                    .map(f -> f.replace(".java", "")).sorted().toList();
            check.same("its names", named, there);
        }
    }

    private static void calls(List<String> lines) {
        check.part("the table of calls");
        Map<String, String> told = new TreeMap<>();
        Map<String, Integer> parameters = new TreeMap<>();
        for (List<String> row : rows(lines, "call")) {
            String call = row.get(0);
            String name = call.substring(0, call.indexOf('('));
            String between = call.substring(call.indexOf('(') + 1, call.indexOf(')'));
            told.put(name, row.get(2));
            parameters.put(name, between.isEmpty() ? 0 : between.split(",").length);
        }
        TreeSet<String> open = new TreeSet<>();
        for (Method m : TinCellar.class.getDeclaredMethods()) {
            if (Modifier.isPublic(m.getModifiers())) {
                open.add(m.getName());
                check.same("parameters of " + m.getName(), parameters.getOrDefault(m.getName(), -1),
                        m.getParameterCount());
                check.same("exceptions of " + m.getName(), told.getOrDefault(m.getName(), "none told"),
                        letters(m.getExceptionTypes()));
            }
        }
        check.same("its names", new TreeSet<>(told.keySet()), open);
    }

    private static String letters(Class<?>[] exceptions) {
        return Arrays.stream(exceptions).map(LETTERS::get).collect(Collectors.joining(" "));
    }

    /** The cells of each row below the head of a table, without the marks of code. */
    private static List<List<String>> rows(List<String> lines, String head) {
        List<List<String>> found = new ArrayList<>();
        boolean inside = false;
        for (String line : lines) {
            if (line.startsWith("| " + head + " |")) {
                inside = true;
            } else if (!line.startsWith("|")) {
                inside = false;
            } else if (inside && !line.startsWith("|-")) {
                found.add(Arrays.stream(line.substring(1).replace("`", "").split("\\|")).map(String::strip).toList());
            }
        }
        return found;
    }

    // ---- the folder in which the commands run

    private static Path newFolder() {
        try {
            return Files.createTempDirectory("readme");
        } catch (IOException e) {
            throw new IllegalStateException(e);
        }
    }

    /** A copy of the sources, so that the commands leave nothing behind in the project. */
    private static void layOutDesk() throws IOException {
        try (Stream<Path> sources = Files.walk(Path.of("src"))) {
            for (Path source : sources.toList()) {
                Files.copy(source, desk.resolve(source.toString()));
            }
        }
    }

    private static void removeDesk() throws IOException {
        try (Stream<Path> all = Files.walk(desk)) {
            for (Path each : all.sorted((a, b) -> b.compareTo(a)).toList()) {
                Files.delete(each);
            }
        }
    }
}
