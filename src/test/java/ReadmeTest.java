import java.io.File;
import java.io.IOException;
import java.lang.reflect.Method;
import java.lang.reflect.Modifier;
import java.nio.charset.StandardCharsets;
import java.nio.file.Files;
import java.nio.file.Path;
import java.nio.file.Paths;
import java.util.Comparator;
import java.util.List;
import java.util.regex.Matcher;
import java.util.regex.Pattern;
import java.util.stream.Collectors;
import java.util.stream.Stream;

/** README.md holds: its example runs as it is written, its TEXT is one, and it tells every call of the face. */
public final class ReadmeTest {
    private static final Pattern HEAD = Pattern.compile("(?m)^    public ((?:\\w+ )?(\\w+)\\([^)]*\\))");

    public static void main(String[] args) throws IOException, InterruptedException {
        Path source = Paths.get(told("NIBBLE_SOURCE", "src/main/java/NibbleEngine.java"));
        String readme = read(Paths.get(told("NIBBLE_README", "README.md")));
        example(readme, source);
        text(readme);
        calls(readme, read(source));
        tests(readme);
        Check.end("ReadmeTest");
    }

    private static String told(String name, String other) {
        String value = System.getenv(name);
        return value == null ? other : value;
    }

    private static String read(Path path) throws IOException {
        return new String(Files.readAllBytes(path), StandardCharsets.UTF_8);
    }

    private static String section(String readme, String head) {
        int start = readme.indexOf("\n## " + head + "\n");
        Check.due("there is a part " + head, true, start >= 0);
        int end = readme.indexOf("\n## ", start + 1);
        return readme.substring(Math.max(start, 0), end < 0 ? readme.length() : end);
    }

    private static String block(String part, String kind) {
        Matcher block = Pattern.compile("(?s)```" + kind + "\\n(.*?)```").matcher(part);
        boolean found = block.find();
        Check.due("there is a block of " + kind, true, found);
        return found ? block.group(1) : "";
    }

    /** Pasted into a shell of a folder with the class in it, the example answers what README.md says. */
    private static void example(String readme, Path source) throws IOException, InterruptedException {
        String part = section(readme, "An example");
        String script = block(part, "sh");
        Path folder = Files.createTempDirectory("readme");
        try {
            Path copy = folder.resolve("src/main/java/NibbleEngine.java");
            Files.createDirectories(copy.getParent());
            Files.copy(source, copy);
            File answers = folder.resolve("answers").toFile();
            Process shell = new ProcessBuilder("sh", "-e", "-c", script).directory(folder.toFile())
                    .redirectErrorStream(true).redirectOutput(answers).start();
            int code = shell.waitFor();
            Check.due("the example ends well", 0, () -> code);
            List<String> got = read(answers.toPath()).lines().collect(Collectors.toList());
            List<String> due = block(part, "text").lines().collect(Collectors.toList());
            for (int i = 0; i < Math.max(got.size(), due.size()); i++) {
                String line = i < got.size() ? got.get(i) : "nothing";
                String told = i < due.size() ? due.get(i) : "nothing";
                Check.due("line " + i + " of the example is '" + line + "', README.md says '" + told + "'", true,
                        line.equals(told));
            }
        } finally {
            remove(folder);
        }
        for (Method method : NibbleEngine.class.getDeclaredMethods()) {
            if (Modifier.isPublic(method.getModifiers())) {
                Check.due("the example asks " + method.getName(), true, script.contains("x." + method.getName() + "("));
            }
        }
    }

    private static void remove(Path folder) throws IOException {
        List<Path> all;
        try (Stream<Path> walk = Files.walk(folder)) {
            all = walk.sorted(Comparator.reverseOrder()).collect(Collectors.toList());
        }
        for (Path one : all) {
            Files.delete(one);
        }
    }

    /** The lines of README.md are one TEXT without a FAULT, in which each INSTRUCTION stands. */
    private static void text(String readme) {
        StringBuilder lines = new StringBuilder();
        Matcher line = Pattern.compile("(?m)^\\| `([^`]*;)` \\|").matcher(section(readme, "Texts"));
        while (line.find()) {
            lines.append(line.group(1)).append('\n');
        }
        String text = lines.toString();
        Check.due("lines are told", true, text.length() > 0);
        NibbleEngine engine = new NibbleEngine();
        Check.due("README.md's TEXT", 0, () -> Check.program(engine, text));
        Check.due("the place of its FAULT", NibbleEngine.NONE, () -> engine.fault());
        for (NibbleEngine.Word word : NibbleEngine.Word.values()) {
            Check.due("README.md's TEXT has " + word.text, true,
                    Pattern.compile("\\b" + word.text + "\\b").matcher(text).find());
        }
    }

    /** Each head of the face has a row, with the exceptions that it throws and no other ones. */
    private static void calls(String readme, String source) {
        String part = section(readme, "Calls");
        String face = source.substring(0, source.indexOf("enum Word"));
        Matcher head = HEAD.matcher(face);
        int heads = 0;
        while (head.find()) {
            heads++;
            int start = part.indexOf("\n| `" + head.group(1) + "` |");
            Check.due("README.md tells " + head.group(1), true, start >= 0);
            if (start >= 0) {
                exceptions(head.group(2), part.substring(start, part.indexOf('\n', start + 1)));
            }
        }
        int told = heads;
        Check.due("the constructor and 35 methods", 36, () -> told);
    }

    private static void exceptions(String name, String row) {
        String[] all = {"NoSuchElementException", "IllegalArgumentException", "ArithmeticException"};
        for (Method method : NibbleEngine.class.getDeclaredMethods()) {
            for (int i = 0; i < all.length && method.getName().equals(name); i++) {
                boolean thrown = false;
                for (Class<?> one : method.getExceptionTypes()) {
                    thrown = thrown || one.getSimpleName().equals(all[i]);
                }
                Check.due(name + " throws " + all[i], thrown, row.contains("`" + all[i] + "`"));
            }
        }
    }

    private static void tests(String readme) {
        String part = section(readme, "Tests");
        Check.due("how the tests are run", true, part.contains("\n.ci/run\n"));
        Matcher test = Pattern.compile("(?<![*\\w])(\\w+Test)\\b").matcher(part);
        File folder = new File(told("NIBBLE_TESTS", "src/test/java"));
        while (test.find()) {
            Check.due(test.group(1) + " is there", true, new File(folder, test.group(1) + ".java").exists());
        }
    }
}
