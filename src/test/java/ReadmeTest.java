import java.io.IOException;
import java.lang.reflect.Field;
import java.lang.reflect.Method;
import java.lang.reflect.Modifier;
import java.nio.charset.StandardCharsets;
import java.nio.file.Files;
import java.nio.file.Path;
import java.util.ArrayList;
import java.util.List;
import java.util.TreeSet;
import java.util.regex.Matcher;
import java.util.regex.Pattern;

/** README.md: its examples answer what it says, and it names each call and constant of the face. */
final class ReadmeTest {
    private static final String NEW_OBJECT = "VoiceWords x = new VoiceWords();";
    private static final Pattern CALL = Pattern.compile("x\\.(.*\\)); +// (-?\\d+|[A-Z_]+)(:.*)?");
    private static final Pattern TEXT = Pattern.compile(
            "for \\(char c : (\".*\")\\.toCharArray\\(\\)\\) x\\.append\\(c\\);");
    private static final Pattern METHOD_ROW = Pattern.compile("\\| `(\\w+)\\(([^)]*)\\)` \\|.*");
    private static final Pattern CONSTANT_ROW = Pattern.compile("\\| `([A-Z_]+)` \\| (-\\d+) \\|.*");

    public static void main(String[] args) throws IOException {
        Check check = new Check("ReadmeTest");
        List<String> lines = Files.readAllLines(Path.of("README.md"), StandardCharsets.UTF_8);
        examples(check, lines);
        methods(check, lines);
        constants(check, lines);
        check.finish();
    }

    private static void examples(Check check, List<String> lines) {
        VoiceWords x = new VoiceWords();
        int calls = 0;
        boolean isExample = false;
        // Behind the part on its use, the page shows how tests are written.
        for (String line : lines.subList(0, lines.indexOf("## Tests"))) {
            if (line.startsWith("```")) {
                isExample = line.equals("```java");
            } else if (line.equals(NEW_OBJECT)) {
                x = new VoiceWords();
            } else if (isExample) {
                calls++;
                example(check, x, line);
            }
        }
        check.holds("there are examples", calls > 0);
    }

    private static void example(Check check, VoiceWords x, String line) {
        Matcher text = TEXT.matcher(line);
        Matcher call = CALL.matcher(line);
        String row = text.matches() ? "append(" + text.group(1) + ")"
                : call.matches() ? call.group(1) + " = " + call.group(2) : "";
        check.holds("an example: " + line, !row.isEmpty());
        if (!row.isEmpty()) {
            Row played = new Row(row);
            int answer = played.callOn(x);
            check.holds(line + ", not " + answer, played.complaint(answer) == null);
        }
    }

    private static void methods(Check check, List<String> lines) {
        List<String> due = new ArrayList<>();
        for (Method method : VoiceWords.class.getDeclaredMethods()) {
            if (Modifier.isPublic(method.getModifiers())) {
                due.add(method.getName() + " " + method.getParameterCount());
            }
        }
        List<String> told = new ArrayList<>();
        for (String line : lines) {
            Matcher matcher = METHOD_ROW.matcher(line);
            if (matcher.matches()) {
                String list = matcher.group(2);
                int parameters = list.isEmpty() ? 0 : list.split(",").length;
                told.add(matcher.group(1) + " " + parameters);
            }
        }
        check.due("calls in the table", told.size(), due.size());
        check.holds(told + " are " + due, new TreeSet<>(told).equals(new TreeSet<>(due)));
    }

    private static void constants(Check check, List<String> lines) {
        List<String> due = new ArrayList<>();
        for (Field field : VoiceWords.class.getFields()) {
            due.add(field.getName() + " " + valueOf(field));
        }
        List<String> told = new ArrayList<>();
        for (String line : lines) {
            Matcher matcher = CONSTANT_ROW.matcher(line);
            if (matcher.matches()) {
                told.add(matcher.group(1) + " " + matcher.group(2));
            }
        }
        check.due("constants in the table", told.size(), due.size());
        check.holds(told + " are " + due, new TreeSet<>(told).equals(new TreeSet<>(due)));
    }

    private static int valueOf(Field constant) {
        try {
            return constant.getInt(null);
        } catch (IllegalAccessException notPublic) {
            throw new IllegalStateException(notPublic);
        }
    }
}
