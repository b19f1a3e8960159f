/** Counts and prints the answers that are not due; a test ends with exit code 1 if there was one. */
final class Check {
    private final String name;
    private int checked;
    private int wrong;

    Check(String name) {
        this.name = name;
    }

    void due(String call, long got, long want) {
        checked++;
        if (got != want) {
            wrong++;
            System.out.println(name + ": " + call + " answered " + got + ", due is " + want);
        }
    }

    void holds(String what, boolean isTrue) {
        due(what, isTrue ? 1 : 0, 1);
    }

    boolean isClean() {
        return wrong == 0;
    }

    void finish() {
        System.out.println(name + ": " + checked + " checks, " + wrong + " wrong");
        if (wrong != 0 || checked == 0) {
            System.exit(1);
        }
    }

    /** Appends all characters of a text. */
    static void write(VoiceWords x, String text) {
        for (int i = 0; i < text.length(); i++) {
            x.append(text.charAt(i));
        }
    }

    /** Loads a text in place of the present one, and leaves none behind. */
    static int load(VoiceWords x, String text) {
        x.clearText();
        write(x, text);
        int answer = x.load();
        x.clearText();
        return answer;
    }
}
