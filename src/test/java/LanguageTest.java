import java.io.IOException;
import java.lang.reflect.Field;
import java.lang.reflect.Modifier;
import java.nio.charset.StandardCharsets;
import java.nio.file.Files;
import java.nio.file.Path;
import java.nio.file.Paths;
import java.util.ArrayDeque;
import java.util.Deque;
import java.util.HashMap;
import java.util.Map;
import java.util.regex.Matcher;
import java.util.regex.Pattern;

/** The rules of LANGUAGE.md that can be seen in the text of the class. */
public final class LanguageTest {
    private static final String[] NEVER = {"->", "::", "\\btry\\b", "\\bcatch\\b", "\\bfinally\\b", "\\bsynchronized\\b",
        "\\bassert\\b", "\\binstanceof\\b", "\\bvar\\b", "\\brecord\\s+\\w+\\(", "\\byield\\b", "\\bvolatile\\b",
        "Exact\\b", "\\bordinal\\b", "\\bhashCode\\b", "\\btoString\\b", "\\bgetClass\\b", "\\bgetMessage\\b",
        "\\bObject\\b", "\\bdouble\\b", "\\bfloat\\b", "\\bprotected\\b", "@", "\\bstatic\\s*\\{"};

    public static void main(String[] args) throws IOException {
        String told = System.getenv("NIBBLE_SOURCE");
        Path path = Paths.get(told == null ? "src/main/java/NibbleEngine.java" : told);
        String source = new String(Files.readAllBytes(path), StandardCharsets.ISO_8859_1);
        for (int i = 0; i < source.length(); i++) {
            if (source.charAt(i) > 126) {
                Check.tell("a sign that isn't plain at " + i);
            }
        }
        String code = source.replaceAll("(?s)/\\*.*?\\*/", " ").replaceAll("//[^\\n]*", "")
            .replaceAll("\"(\\\\.|[^\"\\\\])*\"", "TEXT").replaceAll("'(\\\\.|[^'\\\\])'", "SIGN");
        for (String never : NEVER) {
            Matcher matcher = Pattern.compile(never).matcher(code);
            Check.due("never " + never, false, matcher.find());
        }
        library(code);
        Check.due("no text is joined by +", false, Pattern.compile("TEXT\\s*\\+|\\+\\s*TEXT").matcher(code).find());
        methods(code);
        fields();
        Check.end("LanguageTest");
    }

    private static void library(String code) {
        all(code, "import ([\\w.]+);", "java\\.util\\.NoSuchElementException");
        all(code, "\\bSystem\\.(\\w+)", "arraycopy");
        all(code, "\\bMath\\.(\\w+)", "min|max|abs|floorMod");
        all(code, "\\bthrow new (\\w+)", "NoSuchElementException|IllegalArgumentException|ArithmeticException");
        all(code, "\\bthrow (\\w+)", "new");
        all(code, "\\b([A-Z]\\w+)\\.\\w+\\(", "NibbleEngine|Row|Word|Mover|Math|System|Decimal|Processor");
    }

    private static void all(String code, String what, String due) {
        Matcher matcher = Pattern.compile(what).matcher(code);
        while (matcher.find()) {
            Check.due(matcher.group(), true, matcher.group(1).matches(due));
        }
    }

    /** Methods are short and take few parameters: each brace's head tells what it opens. */
    private static void methods(String code) {
        Deque<Integer> lines = new ArrayDeque<>();
        Deque<String> heads = new ArrayDeque<>();
        Map<String, Integer> long60 = new HashMap<>();
        int line = 1;
        int from = 0;
        for (int i = 0; i < code.length(); i++) {
            char sign = code.charAt(i);
            line += sign == '\n' ? 1 : 0;
            if (sign == '{') {
                lines.push(line);
                heads.push(code.substring(from, i).trim());
            }
            if (sign == '}') {
                String head = heads.pop();
                int many = line - lines.pop() + 1;
                if (head.contains("(") && !head.matches("(?s)(if|for|while|else|switch|do).*")) {
                    long60.put(head, many);
                }
            }
            if (sign == '{' || sign == '}' || sign == ';') {
                from = i + 1;
            }
        }
        for (Map.Entry<String, Integer> method : long60.entrySet()) {
            Check.due("lines of " + method.getKey(), true, method.getValue() <= 60);
            String given = method.getKey().replaceAll("(?s)^.*?\\(", "").replaceAll("(?s)\\).*", "");
            Check.due("parameters of " + method.getKey(), true, given.split(",").length <= 7);
        }
        Check.due("methods were found", true, long60.size() > 100);
    }

    private static void fields() {
        Class<?>[] inside = NibbleEngine.class.getDeclaredClasses();
        Class<?>[] all = new Class<?>[inside.length + 1];
        System.arraycopy(inside, 0, all, 1, inside.length);
        all[0] = NibbleEngine.class;
        Check.due("some twelve classes", true, all.length <= 12);
        for (Class<?> one : all) {
            int own = 0;
            for (Field field : one.getDeclaredFields()) {
                boolean isStatic = Modifier.isStatic(field.getModifiers());
                own += isStatic ? 0 : 1;
                Check.due(field + " is final", true, !isStatic || Modifier.isFinal(field.getModifiers()));
                boolean plain = field.getType().isPrimitive() || field.isEnumConstant() || field.getType() == keptWords();
                Check.due(field + " is a constant", true, !isStatic || plain);
            }
            Check.due("fields of " + one, true, own <= 20);
        }
    }

    /** values() kept once: the one array that is kept. */
    private static Class<?> keptWords() {
        return java.lang.reflect.Array.newInstance(NibbleEngine.Word.class, 0).getClass();
    }
}
