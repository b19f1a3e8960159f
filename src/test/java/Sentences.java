import java.io.IOException;
import java.util.ArrayList;
import java.util.List;

/**
 * Runs of calls, each of a sentence of the document: what is wrong is told with the part of the
 * document (a promise, or a heading of its terms) and the sentence. Where a call of a run is
 * refused, the run is played once more without it, and both objects have to answer alike.
 */
final class Sentences {
    /** An object that holds something of everything, and one that has no room left. */
    static final List<String> SOME = List.of(
            "addWord(3, 5, 10, 2, 1)", "addWord(5, 8, 12, 0, 4)", "addWord(2, 0, 4, 4, 0)",
            "addShot(18)", "addShot(60)", "setSpeed(150)", "put(0, 3, 10)", "put(1, 4, 20)",
            "append(\"say zed 5 6 7 up;cut 91;\")");
    static final List<String> FULL = List.of(
            "12 x addWord(12, 100, 60, 60, 0)", "addShot(250)", "addShot(500)", "addShot(750)",
            "addShot(1000)", "addShot(1250)", "addShot(1500)", "addShot(1750)", "addShot(2000)",
            "addShot(2250)", "addShot(2500)", "putAll()", "160 x append(32)");

    private static final int MOST_CALLS = 512;

    private final Document document;
    private final List<String> wrong = new ArrayList<>();
    private String part = "";
    private String sentence = "";
    private int sentences;
    private int runsHere = 1;
    private int rows;

    Sentences(String file) throws IOException {
        document = Document.read(file);
    }

    /** The runs that follow are of this sentence. */
    void of(String newPart, String newSentence) {
        demandARun();
        part = newPart;
        sentence = newSentence;
        runsHere = 0;
        sentences++;
        if (!document.quote(part, sentence)) {
            complain("it does not stand there in the document");
        }
    }

    private void demandARun() {
        if (runsHere == 0) {
            complain("it has no run");
        }
    }

    /** A run of calls on a new object. */
    void run(String... lines) {
        run(List.of(lines));
    }

    void run(List<String> lines) {
        play(lines, false);
    }

    /** Runs of a call each: on a new object, on one that holds something, and on a full one. */
    void anywhere(String... calls) {
        for (String call : calls) {
            run(call);
            run(behind(SOME, call));
            run(behind(FULL, call));
        }
    }

    static List<String> behind(List<String> start, String... lines) {
        List<String> all = new ArrayList<>(start);
        all.addAll(List.of(lines));
        return all;
    }

    /** Runs of a call with a number (where "#" stands) below its range, above it, and far off. */
    void outOfRange(String call, int low, int high) {
        for (int value : new int[] {low - 1, high + 1, Integer.MIN_VALUE, Integer.MAX_VALUE}) {
            anywhere(call.replace("#", String.valueOf(value)) + " = INVALID_ARGUMENT");
        }
    }

    /** A run of calls on a new object, of which the last one changes nothing, whatever it answers. */
    void runQuestion(String... lines) {
        runQuestion(List.of(lines));
    }

    void runQuestion(List<String> lines) {
        play(lines, true);
    }

    private void play(List<String> lines, boolean isLastQuestion) {
        runsHere++;
        List<Row> run = new ArrayList<>();
        VoiceWords x = new VoiceWords();
        int calls = 0;
        for (String line : lines) {
            Row row = new Row(line);
            rows++;
            calls += row.calls();
            int answer = row.callOn(x);
            run.add(row);
            String complaint = row.complaint(answer);
            if (complaint != null) {
                complain(row + " answered " + answer + ", " + complaint + ", in " + lines);
                return;
            }
            boolean isQuestion = isLastQuestion && run.size() == lines.size();
            if (row.isWithoutValue() || isQuestion) {
                changesNothing(run);
            }
        }
        if (calls > MOST_CALLS) {
            complain("a run of " + calls + " calls");
        }
    }

    /** Whether the last call of a run changes nothing that a later call shows. */
    private void changesNothing(List<Row> run) {
        int calls = 0;
        for (Row row : run) {
            calls += row.calls();
        }
        if (calls + Probes.MOST_CALLS > MOST_CALLS) {
            // The views would call it more often than an object may be called.
            return;
        }
        for (int view = 0; view < Probes.VIEWS; view++) {
            compare(run, Probes.view(view, played(run, false)),
                    Probes.view(view, played(run, true)));
        }
    }

    private void compare(List<Row> run, List<String> got, List<String> due) {
        if (got.size() > Probes.MOST_CALLS) {
            complain("a view of " + got.size() + " calls");
        }
        for (int i = 0; i < due.size(); i++) {
            if (!got.get(i).equals(due.get(i))) {
                complain("after " + run + ", " + got.get(i) + ", due is: " + due.get(i));
                return;
            }
        }
    }

    /** Two runs of calls, after which new objects show the same. */
    void alike(List<String> lines, List<String> dueLines) {
        run(lines);
        for (int view = 0; view < Probes.VIEWS; view++) {
            compare(rowsOf(lines), Probes.view(view, played(rowsOf(lines), false)),
                    Probes.view(view, played(rowsOf(dueLines), false)));
        }
    }

    private static List<Row> rowsOf(List<String> lines) {
        List<Row> rows = new ArrayList<>();
        for (String line : lines) {
            rows.add(new Row(line));
        }
        return rows;
    }

    /** A new object after a run, or after it without its last call and all that are refused. */
    private static VoiceWords played(List<Row> run, boolean isWithoutLast) {
        VoiceWords x = new VoiceWords();
        for (int i = 0; i < run.size(); i++) {
            Row row = run.get(i);
            if (isWithoutLast && (i == run.size() - 1 || row.isWithoutValue())) {
                row.appendText(x);
            } else {
                row.callOn(x);
            }
        }
        return x;
    }

    /** Complains of all that stands in a part of the document and has no test. */
    void demandAllOf(String whole) {
        demandARun();
        runsHere = 1;
        for (String leftOut : document.leftOut(whole)) {
            part = whole;
            sentence = leftOut;
            complain("no test is of it");
        }
    }

    private void complain(String what) {
        wrong.add(part + ", \"" + sentence + "\": " + what);
    }

    void finish() {
        for (int i = 0; i < wrong.size() && i < 100; i++) {
            System.out.println("SentencesTest: " + wrong.get(i));
        }
        System.out.println("SentencesTest: " + sentences + " sentences, " + rows + " rows, "
                + wrong.size() + " wrong");
        if (!wrong.isEmpty() || rows == 0) {
            System.exit(1);
        }
    }
}
