import java.util.ArrayList;
import java.util.List;

/** The sentences of the terms "Undo" and "Errors". */
final class UndoAndErrorSentences {
    /** Each action once, and before it what it needs. */
    private static final String[][] ACTIONS = {
        {"addWord(12, 7, 8, 9, 3)"},
        {"removeWord(0)"}, {"removeWord(1)"},
        {"setWord(0, 0, 6)"}, {"setWord(0, 1, 60)"}, {"setWord(1, 2, 60)"}, {"setWord(0, 3, 4)"},
        {"addShot(1)"}, {"addShot(7)"}, {"addShot(3000)"},
        {"removeShot(20)"}, {"removeShot(40)"},
        {"setSpeed(50)"}, {"setSpeed(400)"},
        {"load(\"\")"}, {"load(\"say it 1 2 3 up;cut 2;\")"},
        {"put(0, 7, 30)"}, {"put(1, 1, 1)"},
        {"take(0)"},
        {"putAll()"}};
    /** A state with something of everything, and as few actions before it as that needs. */
    private static final String[] START = {
        "load(\"say hello 5 20 10 left;say you 5 9 9;cut 40;cut 20;\")", "put(0, 2, 3)"};

    private final Sentences s;

    private UndoAndErrorSentences(Sentences s) {
        this.s = s;
    }

    static void all(Sentences s) {
        UndoAndErrorSentences of = new UndoAndErrorSentences(s);
        of.stateOfFive();
        of.recording();
        of.undoing();
        of.errorsChangeNothing();
        of.orderOfErrors();
        of.constants();
    }

    // ---- Undo

    private void stateOfFive() {
        s.of("Undo", "A history of at most 5 states is kept; a state is everything but the text and "
                + "the history.");
        s.run("count(5) = 0", "undo() = ILLEGAL_STATE");
        s.run("setSpeed(101)", "setSpeed(102)", "setSpeed(103)", "setSpeed(104)", "count(5) = 4",
                "setSpeed(105)", "count(5) = 5", "setSpeed(106)", "count(5) = 5", "undo() = 4",
                "undo() = 3", "undo() = 2", "undo() = 1", "undo() = 0", "undo() = ILLEGAL_STATE",
                "count(3) = 101");
        // the text is no part of a state, and neither is the history
        s.run("append(\"cut 5;\")", "setSpeed(101)", "append(\"cut 6;\")", "count(6) = 12",
                "undo() = 0", "count(6) = 12", "load() = 2");
        s.run("append(\"cut 5;\")", "setSpeed(101)", "clearText() = 6", "undo() = 0", "count(6) = 0");
        s.run("setSpeed(101)", "append(\"cut 5;\")", "load() = 1", "undo() = 1", "count(6) = 0",
                "count(2) = 0", "load() = 0");
        s.run("setSpeed(101)", "setSpeed(102)", "undo() = 1", "undo() = 0", "count(5) = 0",
                "undo() = ILLEGAL_STATE", "setSpeed(103) = 100", "count(5) = 1");
        // whatever an action has changed, undo restores
        for (String[] action : ACTIONS) {
            List<String> rows = new ArrayList<>(List.of(START));
            rows.addAll(List.of(action));
            rows.add("undo() = 2");
            s.alike(rows, List.of(START));
        }
        // also if several of them have come between
        s.alike(List.of(START[0], START[1], "removeWord(0)", "addWord(12, 9, 9, 9, 1)",
                "setWord(0, 1, 60)", "undo() = 4", "undo() = 3", "undo() = 2"), List.of(START));
        s.alike(List.of(START[0], START[1], "putAll()", "removeShot(40)", "load(\"cut 39;\")",
                "undo() = 4", "undo() = 3", "undo() = 2"), List.of(START));
    }

    private void recording() {
        s.of("Undo", "Every successful call of a method that is called an action records the state "
                + "before it; when a sixth one is recorded, the oldest one is dropped.");
        for (String[] action : ACTIONS) {
            List<String> rows = new ArrayList<>(List.of(START));
            rows.add("count(5) = 2");
            rows.addAll(List.of(action));
            rows.add("count(5) = 3");
            s.run(rows);
        }
        // a sixth one drops the oldest, whichever action it is
        for (String[] action : ACTIONS) {
            List<String> rows = new ArrayList<>(List.of(START));
            rows.addAll(List.of("setSpeed(101)", "setSpeed(102)", "setSpeed(103)", "count(5) = 5"));
            rows.addAll(List.of(action));
            rows.addAll(List.of("count(5) = 5", "undo() = 4", "count(3) = 103", "undo() = 3",
                    "count(3) = 102", "undo() = 2", "count(3) = 101", "undo() = 1", "count(3) = 100",
                    "count(1) = 1", "undo() = 0", "count(1) = 0", "count(0) = 2",
                    "undo() = ILLEGAL_STATE", "count(0) = 2", "count(2) = 2"));
            s.run(rows);
        }
        // what is no action, and what fails, records nothing
        s.run("append(32) = 1", "clearText() = 1", "count(5) = 0");
        s.run("setSpeed(101)", "setSpeed(102)", "undo() = 1", "count(5) = 1");
        s.run("setSpeed(49) = INVALID_ARGUMENT", "removeShot(5) = ILLEGAL_STATE",
                "load(\"x\") = -1000", "undo() = ILLEGAL_STATE", "count(5) = 0");
        s.run("12 x addWord(1, 0, 1, 0, 0)", "5 x undo()", "count(0) = 7", "count(5) = 0",
                "undo() = ILLEGAL_STATE");
        // a call that sets what is there already is an action, too
        s.run("setSpeed(100) = 100", "count(5) = 1", "load() = 0", "count(5) = 2", "putAll() = 0",
                "count(5) = 3", "addWord(1, 5, 1, 0, 0)", "setWord(0, 0, 5) = 5", "count(5) = 5");
        s.run("addWord(1, 5, 1, 0, 0)", "put(0, 0, 0) = 1", "put(0, 0, 0) = 1", "count(5) = 3");
    }

    private void undoing() {
        s.of("Undo", "undo() removes the latest state from the history and restores it.");
        s.run("setSpeed(101)", "setSpeed(102)", "undo() = 1", "count(3) = 101", "undo() = 0",
                "count(3) = 100");
        s.run("setSpeed(101)", "setSpeed(102)", "undo() = 1", "setSpeed(103) = 101", "count(5) = 2",
                "undo() = 1", "count(3) = 101", "undo() = 0", "count(3) = 100",
                "undo() = ILLEGAL_STATE", "count(3) = 100");
        s.run("5 x setSpeed(101)", "setSpeed(102)", "undo() = 4", "setSpeed(103)", "setSpeed(104)",
                "count(5) = 5", "undo() = 4", "count(3) = 103", "undo() = 3", "count(3) = 101");
    }

    // ---- Errors

    private void errorsChangeNothing() {
        s.of("Errors", "A call that returns an error code changes nothing.");
        s.anywhere("addWord(0, 0, 1, 0, 0) = INVALID_ARGUMENT", "removeWord(12) = INVALID_ARGUMENT",
                "setWord(12, 0, 0) = INVALID_ARGUMENT", "setWord(0, 0, 2001) = INVALID_ARGUMENT",
                "setWord(0, 4, 1) = INVALID_ARGUMENT", "addShot(0) = INVALID_ARGUMENT",
                "removeShot(0) = INVALID_ARGUMENT", "setSpeed(49) = INVALID_ARGUMENT",
                "append(0) = INVALID_ARGUMENT", "put(12, 0, 0) = INVALID_ARGUMENT",
                "put(0, 8, 0) = INVALID_ARGUMENT", "put(0, 0, 40) = INVALID_ARGUMENT",
                "take(12) = INVALID_ARGUMENT", "count(7) = INVALID_ARGUMENT",
                "word(12, 0) = INVALID_ARGUMENT", "word(0, 8) = INVALID_ARGUMENT",
                "letter(12, 0) = INVALID_ARGUMENT", "letter(0, -1) = INVALID_ARGUMENT",
                "shot(-1) = INVALID_ARGUMENT", "where(12, 0, 0) = INVALID_ARGUMENT",
                "where(0, 4001, 0) = INVALID_ARGUMENT", "written(8, 0, 0) = INVALID_ARGUMENT",
                "onScreen(4001) = INVALID_ARGUMENT", "meeting(0, 0) = INVALID_ARGUMENT",
                "pace(4001) = INVALID_ARGUMENT", "earliest(12, 0, 0) = INVALID_ARGUMENT",
                "earliest(0, 8, 0) = INVALID_ARGUMENT", "filled(4001) = INVALID_ARGUMENT");
        s.run(Sentences.behind(Sentences.SOME, "addShot(18) = ILLEGAL_STATE"));
        s.run(Sentences.behind(Sentences.SOME, "removeShot(19) = ILLEGAL_STATE"));
        s.run(Sentences.behind(Sentences.SOME, "take(2) = ILLEGAL_STATE"));
        s.run(Sentences.behind(Sentences.SOME, "put(2, 3, 11) = ILLEGAL_STATE"));
        s.run(Sentences.behind(Sentences.SOME, "put(1, 3, 11) = ILLEGAL_STATE"));
        s.run("undo() = ILLEGAL_STATE");
        s.run("append(\"cut 5;\")", "undo() = ILLEGAL_STATE");
        s.run(Sentences.behind(Sentences.FULL, "addWord(1, 0, 1, 0, 0) = CAPACITY_EXCEEDED"));
        s.run(Sentences.behind(Sentences.FULL, "addShot(7) = CAPACITY_EXCEEDED"));
        s.run(Sentences.behind(Sentences.FULL, "addShot(250) = ILLEGAL_STATE"));
        s.run(Sentences.behind(Sentences.FULL, "append(32) = CAPACITY_EXCEEDED"));
        s.run(Sentences.behind(Sentences.FULL, "put(0, 7, 28) = 12", "put(1, 7, 20) = ILLEGAL_STATE"));
        // of a text with an error, no item is added, not even those before it, and it is kept
        s.run(Sentences.behind(Sentences.SOME, "load(\"cut 90;say a 1 1 1;cut 18;\") = -1047"));
        s.run(Sentences.behind(Sentences.SOME, "load(\"say a 1 1 1;say b 1 1 1\") = -1047",
                "count(6) = 47", "count(0) = 3", "count(2) = 2", "append(\";\")", "load() = 4",
                "count(0) = 6", "count(2) = 3"));
    }

    private void orderOfErrors() {
        s.of("Errors", "If several error conditions apply, the method returns the one that its "
                + "description lists first; NONE is no error, and it is returned only if no error "
                + "condition applies.");
        // out of range before no room, and before what is not possible in the state
        s.run("12 x addWord(1, 0, 1, 0, 0)", "addWord(0, 0, 1, 0, 0) = INVALID_ARGUMENT",
                "addWord(1, 0, 1, 0, 5) = INVALID_ARGUMENT",
                "addWord(1, 0, 1, 0, 4) = CAPACITY_EXCEEDED");
        s.run(Sentences.behind(Sentences.FULL, "addShot(0) = INVALID_ARGUMENT",
                "addShot(3001) = INVALID_ARGUMENT", "addShot(250) = ILLEGAL_STATE",
                "addShot(2500) = ILLEGAL_STATE", "addShot(251) = CAPACITY_EXCEEDED"));
        s.run(Sentences.behind(Sentences.FULL, "append(0) = INVALID_ARGUMENT",
                "append(256) = INVALID_ARGUMENT", "append(255) = CAPACITY_EXCEEDED"));
        s.run("removeShot(0) = INVALID_ARGUMENT", "removeShot(3001) = INVALID_ARGUMENT",
                "removeShot(3000) = ILLEGAL_STATE");
        s.run("addWord(3, 0, 9, 0, 0)", "addWord(3, 0, 9, 0, 0)", "put(0, 7, 37)",
                "put(1, 8, 37) = INVALID_ARGUMENT", "put(1, 7, 38) = INVALID_ARGUMENT",
                "put(2, 7, 37) = INVALID_ARGUMENT", "put(1, 7, 37) = ILLEGAL_STATE",
                "take(2) = INVALID_ARGUMENT", "take(1) = ILLEGAL_STATE");
        // NONE only if no error condition applies
        s.run("addWord(3, 0, 9, 0, 0)", "word(0, 4) = NONE", "word(1, 4) = INVALID_ARGUMENT",
                "word(0, 8) = INVALID_ARGUMENT", "letter(0, 3) = NONE",
                "letter(1, 3) = INVALID_ARGUMENT", "letter(0, -1) = INVALID_ARGUMENT",
                "shot(0) = NONE", "shot(-1) = INVALID_ARGUMENT", "where(0, 0, 0) = NONE",
                "where(1, 0, 0) = INVALID_ARGUMENT", "where(0, 4001, 0) = INVALID_ARGUMENT",
                "where(0, 0, 2) = INVALID_ARGUMENT", "written(0, 0, 0) = NONE",
                "written(8, 0, 0) = INVALID_ARGUMENT", "written(0, 40, 0) = INVALID_ARGUMENT",
                "written(0, 0, 4001) = INVALID_ARGUMENT", "meeting(0, 0) = INVALID_ARGUMENT",
                "meeting(0, 1) = INVALID_ARGUMENT", "meeting(1, 1) = INVALID_ARGUMENT");
        s.run("addWord(3, 2000, 9, 0, 0)", "addWord(3, 2000, 9, 0, 0)", "put(0, 7, 37)",
                "earliest(1, 7, 37) = NONE", "earliest(1, 8, 37) = INVALID_ARGUMENT",
                "earliest(1, 7, 38) = INVALID_ARGUMENT", "earliest(2, 7, 37) = INVALID_ARGUMENT");
    }

    private void constants() {
        s.of("Errors", "The constants: `INVALID_ARGUMENT = -11`: An argument is out of range, or "
                + "names something that does not exist.");
        s.run("setSpeed(401) = -11");
        s.run("removeWord(0) = -11");
        s.of("Errors", "`ILLEGAL_STATE = -12`: The call is not possible in the present state.");
        s.run("undo() = -12");
        s.run("addShot(5)", "addShot(5) = -12");
        s.of("Errors", "`CAPACITY_EXCEEDED = -13`: There is no room.");
        s.run("12 x addWord(1, 0, 1, 0, 0)", "addWord(1, 0, 1, 0, 0) = -13");
        s.of("Errors", "`NONE = -19`: There is no such value.");
        s.run("shot(0) = -19");
        s.run("addWord(1, 0, 1, 0, 0)", "word(0, 4) = -19");
    }
}
