import java.io.File;
import java.io.IOException;
import java.nio.charset.StandardCharsets;
import java.nio.file.Files;
import java.nio.file.Path;
import java.nio.file.Paths;
import java.util.Arrays;
import java.util.BitSet;
import java.util.LinkedHashMap;
import java.util.Map;
import java.util.regex.Matcher;
import java.util.regex.Pattern;

/**
 * Each sentence of the promises and of the Terms is one that an EdgeTest says, word by word: those that stand in no
 * Edge.says(part, quote) are told, and quotes that the document doesn't have.
 */
public final class SentenceTest {
    private static final String TEXT = "\"(?:\\\\.|[^\"\\\\])*\"";
    private static final Pattern SAYS = Pattern.compile("Edge\\.says\\(\\s*(TERMS|" + TEXT + "),\\s*((?:" + TEXT + "\\s*\\+?\\s*)+)\\)");
    /** What is told elsewhere in the part, or names kinds and forms alone. */
    private static final String[] PLAIN = {"==== 1. The STORE:", "==== 2.", "==== 3.", "a PROGRAM:", "TOKENS:",
        "In quotes is what stands there,", "| one of some. TEXT: LINE*.", ", LENGTH, DIGITS are NUMBERS;", "2 LENGTH; 3 OVERLAP;",
        "5 ZEROS; 7 QUOTIENT; 8 RANGE."};

    private final Map<String, String> parts = new LinkedHashMap<>();
    private final Map<String, BitSet> said = new LinkedHashMap<>();

    public static void main(String[] args) throws IOException {
        Path document = Paths.get(told("NIBBLE_DOC", "../shared/DOC.md"));
        if (Files.exists(document)) {
            new SentenceTest().run(read(document), new File(told("NIBBLE_TESTS", "src/test/java")));
        } else {
            System.out.println("no document at " + document + ", so no sentence is looked up");
        }
        Check.end("SentenceTest");
    }

    private static String told(String name, String other) {
        String value = System.getenv(name);
        return value == null ? other : value;
    }

    private static String read(Path path) throws IOException {
        return new String(Files.readAllBytes(path), StandardCharsets.UTF_8);
    }

    private void run(String document, File tests) throws IOException {
        cut(document);
        File[] files = tests.listFiles((where, name) -> name.endsWith("EdgeTest.java"));
        Check.due("tests of edges are there", true, files != null && files.length > 0);
        if (files == null) {
            return;
        }
        Arrays.sort(files);
        for (File file : files) {
            quotes(file.getName(), read(file.toPath()));
        }
        for (String part : parts.keySet()) {
            for (String plain : PLAIN) {
                mark(part, plain);
            }
            leftOver(part);
        }
    }

    /** The parts: signatures and marks of the page aren't sentences. */
    private void cut(String document) {
        String terms = between(document, "## Terms", "The constants:");
        part("Terms 1", between(terms, "==== 1.", "==== 2."));
        part("Terms 2", between(terms, "==== 2.", "==== 3."));
        part("Terms 3", terms.substring(terms.indexOf("==== 3.")));
        Matcher promise = Pattern.compile("(?s)## (Promise \\d+):.*?(?=\\n## )").matcher(document);
        while (promise.find()) {
            part(promise.group(1), promise.group());
        }
        Check.due("36 promises and three Terms", 39, () -> parts.size());
        part("What it is", between(document, "An object is used", "\n"));
        part("The constants", between(document, "The constants:", "## Promise 1:"));
    }

    private static String between(String text, String from, String to) {
        int start = text.indexOf(from);
        return text.substring(start, text.indexOf(to, start));
    }

    private void part(String name, String text) {
        parts.put(name, text.replaceFirst("(?s)^## Promise [^`]*`[^`]*`:", "").replace("```text", "").replace("```", ""));
        said.put(name, new BitSet());
    }

    private void quotes(String file, String source) {
        Matcher terms = Pattern.compile("TERMS = \"([^\"]*)\"").matcher(source);
        String own = terms.find() ? terms.group(1) : "";
        Matcher says = SAYS.matcher(source);
        while (says.find()) {
            String part = says.group(1).equals("TERMS") ? own : says.group(1).replace("\"", "");
            StringBuilder quote = new StringBuilder();
            Matcher piece = Pattern.compile(TEXT).matcher(says.group(2));
            while (piece.find()) {
                quote.append(piece.group(), 1, piece.group().length() - 1);
            }
            Check.due(file + " quotes " + part + ": " + quote, true, parts.containsKey(part) && mark(part, quote.toString()));
        }
    }

    /** Whether a quote stands in a part; it is said wherever it does. */
    private boolean mark(String part, String quote) {
        String text = parts.get(part);
        boolean found = false;
        for (int at = text.indexOf(quote); at >= 0; at = text.indexOf(quote, at + 1)) {
            said.get(part).set(at, at + quote.length());
            found = true;
        }
        return found;
    }

    private void leftOver(String part) {
        String text = parts.get(part);
        StringBuilder row = new StringBuilder();
        for (int i = 0; i <= text.length(); i++) {
            if (i < text.length() && !said.get(part).get(i)) {
                row.append(text.charAt(i));
            } else if (row.length() > 0) {
                String left = row.toString().trim();
                Check.due(part + " has a sentence that no test says: '" + left + "'", false, left.matches("(?s).*\\w.*"));
                row.setLength(0);
            }
        }
    }
}
