import java.lang.reflect.InvocationTargetException;
import java.util.Map;
import java.util.regex.Matcher;
import java.util.regex.Pattern;

/**
 * A call as a text, with the answer that is due: "addWord(1, 0, 1, 0, 0) = 0", or without one for a
 * call that only has to succeed. "12 x " ahead calls it so often. append("cut 5;") appends each of
 * these characters, and load("cut 5;") appends them and loads.
 */
final class Row {
    private static final Pattern FORM = Pattern.compile(
            "(?:(\\d+) x )?(\\w+)\\((\".*\"|[^\"]*)\\)(?: = (.+))?", Pattern.DOTALL);
    private static final Map<String, Integer> NAMES = Map.of(
            "INVALID_ARGUMENT", -11, "ILLEGAL_STATE", -12, "CAPACITY_EXCEEDED", -13, "NONE", -19,
            "MIN", Integer.MIN_VALUE, "MAX", Integer.MAX_VALUE);

    private final String line;
    private final int times;
    private final String method;
    private final int[] arguments;
    private final String text;
    /** The answer that is due, or null where none is told. */
    private final Integer due;

    Row(String line) {
        Matcher matcher = FORM.matcher(line);
        if (!matcher.matches()) {
            throw new IllegalArgumentException("no row: " + line);
        }
        this.line = line;
        times = matcher.group(1) == null ? 1 : Integer.parseInt(matcher.group(1));
        method = matcher.group(2);
        String inside = matcher.group(3);
        boolean isText = inside.startsWith("\"");
        text = isText ? inside.substring(1, inside.length() - 1) : "";
        arguments = isText ? new int[0] : numbers(inside);
        due = matcher.group(4) == null ? null : number(matcher.group(4));
    }

    private static int[] numbers(String list) {
        String[] parts = list.isBlank() ? new String[0] : list.split(",");
        int[] numbers = new int[parts.length];
        for (int i = 0; i < parts.length; i++) {
            numbers[i] = number(parts[i].trim());
        }
        return numbers;
    }

    private static int number(String word) {
        if (word.matches("'.'")) {
            return word.charAt(1);
        }
        return NAMES.containsKey(word) ? NAMES.get(word) : Integer.parseInt(word);
    }

    @Override
    public String toString() {
        return line;
    }

    /** How many calls of the object it is. */
    int calls() {
        return times * (text.length() + (isOnlyText() ? 0 : 1));
    }

    private boolean isOnlyText() {
        return method.equals("append") && arguments.length == 0;
    }

    /** Whether its call is refused, or answers that there is no such value. */
    boolean isWithoutValue() {
        return due != null && (due == -11 || due == -12 || due == -13 || due == -19
                || method.equals("load") && due <= -1000);
    }

    /** What is due, if an answer is another one; else null. */
    String complaint(int answer) {
        if (due != null) {
            return answer == due ? null : "due is " + due;
        }
        return answer >= 0 ? null : "it should succeed";
    }

    /** Calls it, so often as it says; answers what the last call did. */
    int callOn(VoiceWords x) {
        int answer = 0;
        for (int time = 0; time < times; time++) {
            answer = appendText(x);
            if (!isOnlyText()) {
                answer = call(x, method, arguments);
            }
        }
        return answer;
    }

    /** Does what goes ahead of its call: the text is appended. */
    int appendText(VoiceWords x) {
        int length = 0;
        for (int i = 0; i < text.length(); i++) {
            length = x.append(text.charAt(i));
        }
        return length;
    }

    private static int call(VoiceWords x, String method, int... arguments) {
        Class<?>[] types = new Class<?>[arguments.length];
        Object[] values = new Object[arguments.length];
        for (int i = 0; i < arguments.length; i++) {
            types[i] = int.class;
            values[i] = arguments[i];
        }
        try {
            return (Integer) VoiceWords.class.getMethod(method, types).invoke(x, values);
        } catch (InvocationTargetException thrown) {
            throw new IllegalStateException(method + " threw", thrown.getCause());
        } catch (ReflectiveOperationException noSuchCall) {
            throw new IllegalArgumentException(noSuchCall);
        }
    }
}
