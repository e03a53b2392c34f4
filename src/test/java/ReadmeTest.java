import java.io.IOException;
import java.lang.reflect.Method;
import java.lang.reflect.Modifier;
import java.nio.file.Files;
import java.nio.file.Path;
import java.util.ArrayList;
import java.util.List;
import java.util.Set;
import java.util.TreeSet;
import java.util.regex.Matcher;
import java.util.regex.Pattern;

/** What README.md shows holds: its example, by its own commands, and its table of calls. Runs in the project's folder. */
public final class ReadmeTest {
    private static final Path README = Path.of("README.md");
    private static final Path PROGRAM = Path.of("src", "main", "java", "HopRules.java");
    private static final Pattern ROW = Pattern.compile("\\| \\d+ \\| `([a-zA-Z]+)\\(([^)]*)\\)` \\|.*");

    private ReadmeTest() {
    }

    public static void main(String[] args) throws IOException, InterruptedException {
        List<String> lines = Files.readAllLines(README);
        checkExample(lines);
        Due.is("the calls in the table", callsOfTable(lines).toString(), callsOfFace().toString());
        Due.end();
    }

    /** The lines of the one block that is marked with this word. */
    private static List<String> block(List<String> lines, String word) {
        List<String> inside = new ArrayList<>();
        int begin = lines.indexOf("```" + word);
        Due.is("there is a block " + word, begin >= 0, true);
        Due.is("there is one block " + word, lines.lastIndexOf("```" + word), begin);
        for (int i = begin + 1; i < lines.size() && !lines.get(i).equals("```"); i++) {
            inside.add(lines.get(i));
        }
        return inside;
    }

    private static void checkExample(List<String> lines) throws IOException, InterruptedException {
        Path folder = Files.createTempDirectory("readme");
        try {
            Path program = folder.resolve(PROGRAM);
            Files.createDirectories(program.getParent());
            Files.copy(PROGRAM, program);
            Files.write(folder.resolve("Example.java"), block(lines, "java"));
            StringBuilder printed = new StringBuilder();
            for (String command : block(lines, "sh")) {
                printed.append(run(folder, command));
            }
            String due = String.join("\n", block(lines, "text")) + "\n";
            Due.is("the example's output", printed.toString(), due);
        } finally {
            remove(folder);
        }
    }

    /** What the command prints, which has to end with 0. */
    private static String run(Path folder, String command) throws IOException, InterruptedException {
        ProcessBuilder builder = new ProcessBuilder(command.split(" "));
        builder.directory(folder.toFile()).redirectError(ProcessBuilder.Redirect.INHERIT);
        Process process = builder.start();
        String printed = new String(process.getInputStream().readAllBytes());
        Due.is(command + " ends with", process.waitFor(), 0);
        return printed;
    }

    private static void remove(Path folder) throws IOException {
        List<Path> found = new ArrayList<>();
        try (var walk = Files.walk(folder)) {
            walk.forEach(found::add);
        }
        for (int i = found.size() - 1; i >= 0; i--) {
            Files.delete(found.get(i));
        }
    }

    private static Set<String> callsOfTable(List<String> lines) {
        Set<String> calls = new TreeSet<>();
        for (String line : lines) {
            Matcher row = ROW.matcher(line);
            if (row.matches()) {
                String parts = row.group(2);
                calls.add(row.group(1) + "/" + (parts.isEmpty() ? 0 : parts.split(", ").length));
            }
        }
        return calls;
    }

    private static Set<String> callsOfFace() {
        Set<String> calls = new TreeSet<>();
        for (Method method : HopRules.class.getDeclaredMethods()) {
            if (Modifier.isPublic(method.getModifiers())) {
                calls.add(method.getName() + "/" + method.getParameterCount());
            }
        }
        return calls;
    }
}
