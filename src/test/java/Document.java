import java.io.IOException;
import java.nio.charset.StandardCharsets;
import java.nio.file.Files;
import java.nio.file.Path;
import java.util.ArrayList;
import java.util.LinkedHashMap;
import java.util.List;
import java.util.Map;

/** The parts of the document by their headings, and which of their sentences have been quoted. */
final class Document {
    /** What stands in a part beside its sentences: the face of a method, and the groups of them. */
    private static final String NO_SENTENCES =
            "`(int )?[A-Za-z]+\\([^)]*\\)`:"
            + "|Ahead of the calls [^:]*: ---- (words and shots|putting words|looking)\\.";

    private final Map<String, String> texts = new LinkedHashMap<>();
    private final Map<String, boolean[]> quoted = new LinkedHashMap<>();

    static Document read(String file) throws IOException {
        Document document = new Document();
        String part = "";
        StringBuilder text = new StringBuilder();
        for (String line : Files.readAllLines(Path.of(file), StandardCharsets.UTF_8)) {
            if (line.startsWith("#")) {
                document.addPart(part, text.toString());
                text.setLength(0);
                // "Promise 2: addWord" is the part "Promise 2"
                part = line.replaceAll("^#+ *", "").replaceAll(":.*", "");
            } else if (!line.startsWith("```")) {
                text.append(line).append(' ');
            }
        }
        document.addPart(part, text.toString());
        return document;
    }

    private void addPart(String part, String text) {
        String plain = oneSpace(text.replaceAll(NO_SENTENCES, " "));
        texts.put(part, plain);
        quoted.put(part, new boolean[plain.length()]);
    }

    private static String oneSpace(String text) {
        return text.replaceAll("\\s+", " ").trim();
    }

    /** Marks a sentence wherever it stands in a part; false if it stands nowhere in it. */
    boolean quote(String part, String sentence) {
        String text = texts.getOrDefault(part, "");
        boolean isThere = false;
        for (int at = text.indexOf(sentence); at >= 0; at = text.indexOf(sentence, at + 1)) {
            isThere = true;
            for (int i = at; i < at + sentence.length(); i++) {
                quoted.get(part)[i] = true;
            }
        }
        return isThere;
    }

    /** What of a part has not been quoted, but for signs between the sentences. */
    List<String> leftOut(String part) {
        List<String> leftOut = new ArrayList<>();
        StringBuilder run = new StringBuilder();
        String text = texts.getOrDefault(part, "(there is no part " + part + ")");
        for (int i = 0; i <= text.length(); i++) {
            boolean isQuoted = i == text.length()
                    || texts.containsKey(part) && quoted.get(part)[i];
            if (!isQuoted) {
                run.append(text.charAt(i));
            } else if (run.length() > 0) {
                if (run.toString().matches(".*[A-Za-z0-9].*")) {
                    leftOut.add(run.toString().trim());
                }
                run.setLength(0);
            }
        }
        return leftOut;
    }
}
