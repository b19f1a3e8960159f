import java.util.ArrayList;
import java.util.List;

/** The sentences of the promises 15 to 25: looking, and questions. */
final class LookingSentences {
    private static final String WORD = "addWord(4, 10, 20, 30, 2)";

    private final Sentences s;

    private LookingSentences(Sentences s) {
        this.s = s;
    }

    static void all(Sentences s) {
        LookingSentences of = new LookingSentences(s);
        of.count();
        of.word();
        of.letter();
        of.shot();
        of.where();
        of.written();
        of.onScreen();
        of.meeting();
        of.pace();
        of.earliest();
        of.filled();
        of.questions();
    }

    /** The numbers beside those of the words that there are: none, some, twelve. */
    private void aWord(String promise, String name, String call) {
        s.of(promise, "- `" + name + "`: a word");
        for (String number : new String[] {"-1", "12", "MIN", "MAX"}) {
            s.anywhere(call.replace("#", number) + " = INVALID_ARGUMENT");
        }
        s.run(call.replace("#", "0") + " = INVALID_ARGUMENT");
        s.run(Sentences.behind(Sentences.SOME, call.replace("#", "3") + " = INVALID_ARGUMENT"));
        s.run(WORD, WORD, WORD, "removeWord(0)", call.replace("#", "2") + " = INVALID_ARGUMENT");
    }

    private void count() {
        s.of("Promise 15", "Returns a number.");
        s.run("count(0) = 0");
        s.of("Promise 15", "- `what`: 0 the number of words, 1 of words that are put, 2 of shots, "
                + "3 the percent of the speed, 4 the number of pairs of words that meet in some "
                + "frame, 5 the states in the history, 6 the length of the text");
        s.outOfRange("count(#)", 0, 6);
        s.run("addWord(5, 0, 10, 0, 0)", "addWord(5, 5, 10, 0, 0)", "addWord(5, 12, 10, 0, 0)",
                "addShot(5)", "addShot(12)", "setSpeed(170)", "put(0, 3, 3)", "put(1, 3, 3)",
                "append(\"cut\")", "count(0) = 3", "count(1) = 2", "count(2) = 2",
                "count(3) = 170", "count(4) = 0", "count(5) = 5", "count(6) = 3");
        // a shot before each word parts them all, then fewer, then none
        s.run("addWord(5, 0, 40, 0, 0)", "addWord(5, 5, 40, 0, 0)", "addWord(5, 12, 40, 0, 0)",
                "addShot(5)", "addShot(12)", "put(0, 3, 3)", "put(1, 3, 3)", "put(2, 3, 3)",
                "count(4) = 0", "removeShot(12)", "count(4) = 1", "removeShot(5)", "count(4) = 3",
                "take(1)", "count(4) = 1", "take(0)", "count(4) = 0");
        // words of different lanes, of which one leaves, or both do
        s.run("addWord(1, 0, 1, 0, 4)", "addWord(1, 0, 30, 0, 0)", "addWord(1, 0, 1, 0, 3)",
                "addShot(1)", "put(0, 0, 9)", "put(1, 6, 9)", "put(2, 4, 9)", "count(4) = 0",
                "removeShot(1)", "count(4) = 2", "take(1)", "count(4) = 1");
        // twelve words, all of which meet: 66 pairs
        List<String> rows = new ArrayList<>();
        for (int k = 0; k < 12; k++) {
            rows.add("addWord(1, " + k + ", 60, 0, 0)");
            rows.add("put(" + k + ", 0, 0) = " + (k + 1));
            if (k < 10) {
                rows.add("addShot(" + (k + 1) + ")");
            } else if (k == 10) {
                rows.add("removeShot(1)");
                rows.add("addShot(11)");
            }
        }
        rows.add("count(4) = 1");
        for (int k = 2; k <= 11; k++) {
            rows.add("removeShot(" + k + ")");
        }
        rows.add("count(4) = 66");
        s.run(rows);
        s.run("count(4) = 0", WORD, "count(4) = 0", "put(0, 0, 0)", "count(4) = 0");
        s.of("Promise 15", "Returns the number;");
        s.runQuestion("count(3) = 100");
        s.runQuestion(Sentences.behind(Sentences.SOME, "count(4) = 0"));
        s.of("Promise 15", "INVALID_ARGUMENT if what is out of range.");
        s.run("count(-1) = INVALID_ARGUMENT", "count(7) = INVALID_ARGUMENT");
    }

    private void word() {
        s.of("Promise 16", "Returns a property of a word.");
        s.runQuestion(Sentences.behind(Sentences.SOME, "word(1, 6) = 17"));
        aWord("Promise 16", "word", "word(#, 0)");
        s.of("Promise 16", "- `what`: 0 its first frame, 1 its spoken frames, 2 its held frames, "
                + "3 its way out, 4 its lane, 5 its column, 6 the last frame in which it is on the "
                + "screen, 7 the number of its letters");
        s.outOfRange("word(0, #)", 0, 7);
        s.run(WORD, "word(0, -1) = INVALID_ARGUMENT", "word(0, 8) = INVALID_ARGUMENT",
                "word(0, MIN) = INVALID_ARGUMENT", "word(0, MAX) = INVALID_ARGUMENT");
        s.run("addWord(12, 11, 12, 13, 4)", "put(0, 6, 7)", "word(0, 0) = 11", "word(0, 1) = 12",
                "word(0, 2) = 13", "word(0, 3) = 4", "word(0, 4) = 6", "word(0, 5) = 7",
                "word(0, 6) = 36", "word(0, 7) = 12");
        // the last frame, with the least and the greatest values
        s.run("addWord(1, 0, 1, 0, 0)", "put(0, 0, 0)", "word(0, 6) = 0");
        s.run("addWord(1, 0, 1, 0, 3)", "put(0, 0, 0)", "word(0, 6) = 0");
        s.run("addWord(12, 2000, 60, 60, 1)", "setSpeed(50)", "put(0, 0, 28)", "word(0, 6) = 2198",
                "addShot(2198)", "word(0, 6) = 2197", "addShot(2001)", "word(0, 6) = 2000",
                "addShot(2000)", "word(0, 6) = 2000");
        s.of("Promise 16", "Returns the property;");
        s.run(WORD, "addWord(3, 5, 6, 7, 1)", "word(0, 0) = 10", "word(1, 0) = 5", "word(1, 7) = 3");
        s.of("Promise 16", "INVALID_ARGUMENT if there is no such word or what is out of range;");
        s.run("word(0, 4) = INVALID_ARGUMENT", WORD, "word(1, 4) = INVALID_ARGUMENT",
                "word(0, 8) = INVALID_ARGUMENT", "word(1, 8) = INVALID_ARGUMENT");
        s.of("Promise 16", "NONE for 4 to 6 if it is not put.");
        s.run(WORD, "word(0, 3) = 2", "word(0, 4) = NONE", "word(0, 5) = NONE", "word(0, 6) = NONE",
                "word(0, 7) = 4", "put(0, 0, 0)", "word(0, 4) = 0", "word(0, 5) = 0",
                "take(0)", "word(0, 4) = NONE", "word(0, 5) = NONE", "word(0, 6) = NONE");
    }

    private void letter() {
        s.of("Promise 17", "Returns a letter of a word.");
        s.runQuestion(Sentences.behind(Sentences.SOME, "letter(1, 4) = 'e'"));
        aWord("Promise 17", "word", "letter(#, 0)");
        s.of("Promise 17", "- `index`: 0 for the first one");
        s.run("load(\"say xyz 0 1 0;\")", "letter(0, 0) = 'x'", "letter(0, 1) = 'y'",
                "letter(0, 2) = 'z'");
        s.of("Promise 17", "Returns the character;");
        s.run("addWord(12, 0, 1, 0, 0)", "letter(0, 0) = 97", "letter(0, 11) = 108");
        s.of("Promise 17", "INVALID_ARGUMENT if there is no such word or index is negative;");
        s.run(WORD, "letter(0, -1) = INVALID_ARGUMENT", "letter(0, MIN) = INVALID_ARGUMENT",
                "letter(1, 0) = INVALID_ARGUMENT", "letter(1, 12) = INVALID_ARGUMENT",
                "letter(1, MAX) = INVALID_ARGUMENT", "letter(-1, 0) = INVALID_ARGUMENT");
        s.anywhere("letter(0, -1) = INVALID_ARGUMENT", "letter(12, 0) = INVALID_ARGUMENT");
        s.of("Promise 17", "NONE if it has not so many letters.");
        for (int letters = 1; letters <= 12; letters++) {
            s.run("addWord(12, 0, 1, 0, 0)", "removeWord(0)", "addWord(" + letters + ", 0, 1, 0, 0)",
                    "letter(0, " + (letters - 1) + ") = " + (96 + letters),
                    "letter(0, " + letters + ") = NONE", "letter(0, 12) = NONE",
                    "letter(0, 13) = NONE", "letter(0, MAX) = NONE");
        }
    }

    private void shot() {
        s.of("Promise 18", "Returns the frame in which a shot begins.");
        s.runQuestion(Sentences.behind(Sentences.SOME, "shot(1) = 60"));
        s.of("Promise 18", "- `index`: 0 for the earliest one");
        s.run("addShot(3000)", "addShot(1)", "addShot(50)", "addShot(2)", "shot(0) = 1",
                "shot(1) = 2", "shot(2) = 50", "shot(3) = 3000");
        s.of("Promise 18", "Returns the frame;");
        s.run("addShot(1)", "shot(0) = 1", "removeShot(1)", "addShot(3000)", "shot(0) = 3000");
        s.of("Promise 18", "INVALID_ARGUMENT if index is negative;");
        s.anywhere("shot(-1) = INVALID_ARGUMENT", "shot(MIN) = INVALID_ARGUMENT");
        s.of("Promise 18", "NONE if there are not so many.");
        s.run("shot(0) = NONE", "addShot(5)", "shot(1) = NONE", "shot(MAX) = NONE", "shot(0) = 5",
                "removeShot(5)", "shot(0) = NONE");
        s.run(Sentences.behind(Sentences.FULL, "shot(9) = 2500", "shot(10) = NONE",
                "shot(11) = NONE", "shot(MAX) = NONE"));
    }

    private void where() {
        s.of("Promise 19", "Tells where a word is in a frame.");
        s.runQuestion(Sentences.behind(Sentences.SOME, "where(0, 5, 1) = 10"));
        aWord("Promise 19", "word", "where(#, 0, 0)");
        s.of("Promise 19", "- `frame`: 0 to 4000");
        s.outOfRange("where(0, #, 0)", 0, 4000);
        s.run(WORD, "put(0, 0, 0)", "where(0, -1, 0) = INVALID_ARGUMENT", "where(0, 0, 0) = NONE",
                "where(0, 4000, 0) = NONE", "where(0, 4001, 0) = INVALID_ARGUMENT");
        s.run("addWord(1, 0, 1, 0, 0)", "put(0, 7, 39)", "where(0, 0, 0) = 7", "where(0, 0, 1) = 39");
        s.of("Promise 19", "- `what`: 0 its row, 1 the column of its first letter (less than 0 or "
                + "greater than 39 if that one has moved off the screen; -1000 is added to it then)");
        s.outOfRange("where(0, 0, #)", 0, 1);
        s.run(WORD, "put(0, 0, 0)", "where(0, 10, -1) = INVALID_ARGUMENT",
                "where(0, 10, 2) = INVALID_ARGUMENT", "where(0, 10, 0) = 0", "where(0, 10, 1) = 0");
        s.run("addWord(12, 0, 1, 0, 1)", "put(0, 2, 1)", "where(0, 0, 1) = 1", "where(0, 1, 1) = 0",
                "where(0, 2, 1) = -1001", "where(0, 3, 1) = -1002", "where(0, 12, 1) = -1011",
                "where(0, 12, 0) = 2", "where(0, 13, 1) = NONE");
        s.run("addWord(12, 0, 1, 0, 2)", "put(0, 2, 27)", "where(0, 0, 1) = 27",
                "where(0, 12, 1) = 39", "where(0, 13, 1) = NONE");
        s.run("addWord(1, 0, 1, 0, 3)", "put(0, 1, 5)", "where(0, 1, 0) = 0", "where(0, 1, 1) = 5",
                "where(0, 2, 0) = NONE");
        s.run("addWord(1, 0, 1, 0, 4)", "put(0, 6, 5)", "where(0, 1, 0) = 7", "where(0, 1, 1) = 5",
                "where(0, 2, 0) = NONE");
        s.of("Promise 19", "Returns the number;");
        s.run(WORD, "put(0, 5, 6)", "where(0, 10, 0) = 5", "where(0, 10, 1) = 6",
                "where(0, 60, 1) = 7", "where(0, 61, 1) = 8");
        s.of("Promise 19", "INVALID_ARGUMENT if an argument is out of range;");
        s.anywhere("where(-1, -1, -1) = INVALID_ARGUMENT", "where(12, 4001, 2) = INVALID_ARGUMENT",
                "where(MAX, MAX, MAX) = INVALID_ARGUMENT", "where(MIN, MIN, MIN) = INVALID_ARGUMENT");
        s.of("Promise 19", "NONE if it is not put or not on the screen.");
        s.run(WORD, "where(0, 10, 0) = NONE", "where(0, 10, 1) = NONE", "put(0, 5, 35)",
                "where(0, 9, 0) = NONE", "where(0, 9, 1) = NONE", "where(0, 10, 1) = 35",
                "where(0, 63, 1) = 39", "where(0, 64, 1) = NONE", "where(0, 64, 0) = NONE",
                "addShot(63)", "where(0, 63, 1) = NONE", "where(0, 62, 1) = 38", "take(0)",
                "where(0, 10, 1) = NONE");
    }

    private void written() {
        s.of("Promise 20", "Returns what is written in a cell in a frame.");
        s.runQuestion(Sentences.behind(Sentences.SOME, "written(3, 12, 5) = 'c'"));
        s.of("Promise 20", "- `row`: 0 to 7");
        s.outOfRange("written(#, 0, 0)", 0, 7);
        s.of("Promise 20", "- `column`: 0 to 39");
        s.outOfRange("written(0, #, 0)", 0, 39);
        s.of("Promise 20", "- `frame`: 0 to 4000");
        s.outOfRange("written(0, 0, #)", 0, 4000);
        s.run("written(0, 0, 0) = NONE", "written(7, 39, 4000) = NONE");
        s.run("addWord(1, 0, 1, 0, 0)", "addWord(1, 0, 1, 0, 0)", "addWord(2, 0, 1, 0, 0)",
                "addWord(2, 0, 1, 0, 0)", "put(0, 0, 0)", "put(1, 7, 0)", "put(2, 0, 38)",
                "put(3, 7, 38)", "written(0, 0, 0) = 'a'", "written(7, 0, 0) = 'a'",
                "written(0, 39, 0) = 'b'", "written(7, 39, 0) = 'b'", "written(0, 37, 0) = NONE",
                "written(0, 1, 0) = NONE", "written(1, 0, 0) = NONE", "written(6, 39, 0) = NONE");
        s.of("Promise 20", "Returns the character (of the word with the smallest number, if several "
                + "meet there);");
        s.run("load(\"say xyz 5 9 0;say pqr 7 9 0;cut 7;\")", "put(0, 2, 10)", "put(1, 2, 11)",
                "removeShot(7)", "written(2, 10, 7) = 'x'", "written(2, 11, 7) = 'y'",
                "written(2, 12, 7) = 'z'", "written(2, 13, 7) = 'r'", "written(2, 11, 14) = 'p'");
        // the number decides, not the first frame, nor which was put first
        s.run("load(\"say xyz 7 9 0;say pqr 5 9 0;cut 7;\")", "put(1, 2, 11)", "put(0, 2, 10)",
                "removeShot(7)", "written(2, 11, 6) = 'p'", "written(2, 11, 7) = 'y'",
                "written(2, 13, 7) = 'r'", "written(2, 14, 7) = NONE");
        s.of("Promise 20", "INVALID_ARGUMENT if an argument is out of range;");
        s.anywhere("written(-1, -1, -1) = INVALID_ARGUMENT", "written(8, 40, 4001) = INVALID_ARGUMENT",
                "written(MIN, MIN, MIN) = INVALID_ARGUMENT",
                "written(MAX, MAX, MAX) = INVALID_ARGUMENT");
        s.of("Promise 20", "NONE if there is no letter.");
        s.run(WORD, "written(3, 20, 10) = NONE", "put(0, 3, 20)", "written(3, 20, 10) = 'a'",
                "written(3, 23, 10) = 'd'", "written(3, 19, 10) = NONE", "written(3, 24, 10) = NONE",
                "written(2, 20, 10) = NONE", "written(4, 20, 10) = NONE", "written(3, 20, 9) = NONE",
                "written(3, 20, 59) = 'a'", "written(3, 20, 60) = NONE", "written(3, 24, 60) = 'd'",
                "addShot(11)", "written(3, 20, 11) = NONE", "written(3, 20, 10) = 'a'");
    }

    private void onScreen() {
        s.of("Promise 21", "Returns the set of the words that are on the screen in a frame.");
        s.runQuestion(Sentences.behind(Sentences.SOME, "onScreen(8) = 3"));
        s.of("Promise 21", "- `frame`: 0 to 4000");
        s.outOfRange("onScreen(#)", 0, 4000);
        s.run("onScreen(0) = 0", "onScreen(4000) = 0");
        s.run("addWord(1, 0, 1, 0, 0)", "put(0, 0, 0)", "onScreen(0) = 1", "onScreen(4000) = 0");
        s.of("Promise 21", "Returns the set, bit k for the word k;");
        List<String> rows = new ArrayList<>();
        for (int k = 0; k < 12; k++) {
            rows.add("addWord(1, 0, 60, 0, 0)");
            rows.add("put(" + k + ", 0, " + 3 * k + ")");
            rows.add("onScreen(0) = " + ((2 << k) - 1));
        }
        rows.add("onScreen(59) = 4095");
        rows.add("onScreen(60) = 0");
        rows.add("take(0)");
        rows.add("onScreen(0) = 4094");
        rows.add("take(11)");
        rows.add("onScreen(0) = 2046");
        rows.add("removeWord(0)");
        rows.add("onScreen(0) = 1023");
        s.run(rows);
        s.of("Promise 21", "INVALID_ARGUMENT if frame is out of range.");
        s.run(WORD, "put(0, 0, 0)", "onScreen(-1) = INVALID_ARGUMENT", "onScreen(10) = 1",
                "onScreen(4001) = INVALID_ARGUMENT");
    }

    private void meeting() {
        s.of("Promise 22", "Finds the first frame in which two words meet.");
        s.runQuestion(Sentences.behind(Sentences.SOME, "meeting(0, 1) = NONE"));
        // standing words: the first frame of the later one
        s.run("addWord(3, 0, 9, 0, 0)", "addWord(3, 5, 9, 0, 0)", "addShot(5)", "put(0, 3, 10)",
                "put(1, 3, 12)", "meeting(0, 1) = NONE", "removeShot(5)", "meeting(0, 1) = 5",
                "meeting(1, 0) = 5", "addShot(6)", "meeting(0, 1) = 5", "addShot(5)",
                "meeting(0, 1) = NONE");
        // one that moves, and one that stands: not before it comes, and not behind it
        s.run("addWord(3, 0, 1, 0, 2)", "addWord(3, 0, 30, 0, 0)", "addShot(7)", "put(0, 3, 0)",
                "put(1, 3, 10)", "meeting(0, 1) = NONE", "removeShot(7)", "meeting(0, 1) = 8",
                "meeting(1, 0) = 8", "addShot(9)", "meeting(0, 1) = 8", "addShot(8)",
                "meeting(0, 1) = NONE");
        s.run("addWord(3, 0, 1, 0, 4)", "addWord(3, 0, 30, 0, 0)", "addShot(1)", "put(0, 0, 10)",
                "put(1, 7, 12)", "removeShot(1)", "meeting(0, 1) = 7");
        // both move, towards each other, and in the same direction at the same speed
        s.run("addWord(1, 0, 1, 0, 2)", "addWord(1, 0, 1, 0, 1)", "addShot(1)", "put(0, 3, 0)",
                "put(1, 3, 20)", "removeShot(1)", "meeting(0, 1) = 10", "put(1, 3, 21) = 2",
                "meeting(0, 1) = NONE");
        s.run("addWord(3, 0, 1, 0, 2)", "addWord(3, 0, 1, 0, 2)", "put(0, 3, 0)", "put(1, 3, 3) = 2",
                "meeting(0, 1) = NONE");
        // in the last frame in which the one is on the screen
        s.run("addWord(1, 0, 1, 0, 2)", "addWord(1, 0, 40, 0, 0)", "addShot(1)", "put(0, 3, 0)",
                "put(1, 3, 39)", "removeShot(1)", "meeting(0, 1) = 39");
        s.run("addWord(1, 2000, 60, 60, 2)", "addWord(1, 2000, 60, 60, 1)", "setSpeed(50)",
                "addShot(2001)", "put(0, 3, 0)", "put(1, 3, 39)", "removeShot(2001)",
                "meeting(0, 1) = NONE", "put(1, 3, 38) = ILLEGAL_STATE", "addShot(2001)",
                "put(1, 3, 38) = 2", "removeShot(2001)", "meeting(0, 1) = 2157");
        aWord("Promise 22", "a", "meeting(#, 1)");
        s.of("Promise 22", "- `b`: another word");
        for (String number : new String[] {"-1", "12", "MIN", "MAX"}) {
            s.anywhere("meeting(0, " + number + ") = INVALID_ARGUMENT");
        }
        s.anywhere("meeting(0, 0) = INVALID_ARGUMENT", "meeting(11, 11) = INVALID_ARGUMENT");
        s.run(WORD, WORD, "meeting(0, 2) = INVALID_ARGUMENT", "meeting(0, 1) = NONE",
                "meeting(1, 0) = NONE", "meeting(1, 2) = INVALID_ARGUMENT");
        s.of("Promise 22", "Returns the frame;");
        s.run("addWord(1, 0, 2, 0, 0)", "addWord(1, 1, 1, 0, 0)", "addShot(1)", "put(0, 0, 0)",
                "put(1, 0, 0)", "removeShot(1)", "meeting(0, 1) = 1");
        s.of("Promise 22", "INVALID_ARGUMENT if an argument is out of range, or both are the same;");
        s.run(WORD, WORD, "put(0, 0, 0)", "meeting(0, 0) = INVALID_ARGUMENT",
                "meeting(1, 1) = INVALID_ARGUMENT", "meeting(2, 2) = INVALID_ARGUMENT",
                "meeting(-1, -1) = INVALID_ARGUMENT");
        s.of("Promise 22", "NONE if they never meet.");
        s.run(WORD, WORD, "meeting(0, 1) = NONE", "put(0, 0, 0)", "meeting(0, 1) = NONE",
                "meeting(1, 0) = NONE", "put(1, 1, 0)", "meeting(0, 1) = NONE");
    }

    private void pace() {
        s.of("Promise 23", "Tells how fast one has to read: the letters of all words, put or not, "
                + "that are spoken in a frame (from its first frame on, as many frames as it is "
                + "spoken; shots do not matter), each word with (float) (its letters) / (float) (its "
                + "spoken frames), added up in float by ascending numbers, beginning with 0.0f, and "
                + "multiplied by 25.0f.");
        s.run("addWord(5, 10, 10, 20, 1)", "pace(9) = 0", "pace(10) = 12", "pace(19) = 12",
                "pace(20) = 0", "pace(30) = 0", "put(0, 0, 0)", "pace(10) = 12", "pace(20) = 0",
                "addShot(12)", "pace(12) = 12", "pace(19) = 12", "addShot(10)", "pace(10) = 12",
                "addWord(3, 19, 7, 0, 0)", "pace(18) = 12", "pace(19) = 23", "pace(20) = 10",
                "pace(25) = 10", "pace(26) = 0");
        s.run("addWord(1, 0, 1, 0, 0)", "pace(0) = 25", "pace(1) = 0");
        s.run("addWord(12, 2000, 60, 60, 4)", "pace(1999) = 0", "pace(2000) = 5", "pace(2059) = 5",
                "pace(2060) = 0");
        s.run("12 x addWord(12, 2000, 1, 0, 0)", "pace(2000) = 3600", "pace(2001) = 0");
        // in float: in double, as fractions, or in another order, the answers would be others
        pace(9, 6, 25, 4, 25);
        pace(22, 11, 25, 12, 25);
        pace(52, 6, 3, 3, 25);
        pace(40, 11, 60, 5, 4, 9, 54);
        pace(19, 12, 60, 9, 20, 9, 60);
        pace(134, 9, 3, 11, 5, 9, 45);
        pace(60, 8, 25, 4, 50, 8, 4);
        pace(4, 8, 50);
        pace(6, 12, 50);
        pace(11, 11, 25);
        s.of("Promise 23", "- `frame`: 0 to 4000");
        s.outOfRange("pace(#)", 0, 4000);
        s.run("addWord(1, 0, 1, 0, 0)", "pace(0) = 25", "pace(4000) = 0");
        s.of("Promise 23", "Returns the product, cast to int;");
        // 0.42, 0.83, 1.25, 41.67, 43.75: what is behind the point is cut, and not rounded
        pace(0, 1, 60);
        pace(0, 2, 60);
        pace(1, 3, 60);
        pace(41, 5, 3);
        pace(43, 7, 4);
        s.of("Promise 23", "INVALID_ARGUMENT if frame is out of range.");
        s.run("12 x addWord(12, 0, 60, 0, 0)", "pace(-1) = INVALID_ARGUMENT", "pace(59) = 60",
                "pace(60) = 0", "pace(4001) = INVALID_ARGUMENT");
    }

    /** The pace of words that are spoken at the same time: letters and spoken frames of each. */
    private void pace(int due, int... words) {
        List<String> rows = new ArrayList<>();
        for (int i = 0; i < words.length; i += 2) {
            rows.add("addWord(" + words[i] + ", 7, " + words[i + 1] + ", 0, 0)");
        }
        rows.add("pace(7) = " + due);
        s.run(rows);
    }

    private void earliest() {
        s.of("Promise 24", "Finds the earliest first frame with which a word could be put at a "
                + "place without meeting any other word.");
        s.run("addWord(5, 10, 10, 0, 0)", "addWord(3, 5, 3, 2, 0)", "put(0, 3, 0)",
                "earliest(1, 3, 3) = 5", "setWord(1, 0, 6)", "earliest(1, 3, 3) = 20",
                "earliest(1, 3, 5) = 6", "earliest(1, 2, 3) = 6", "put(1, 7, 30)",
                "earliest(1, 7, 30) = 6", "earliest(1, 7, 31) = 6", "earliest(1, 3, 3) = 20",
                "earliest(0, 3, 0) = 10", "take(0)", "earliest(1, 3, 3) = 6");
        // it passes between two words, if there is time enough
        s.run("addWord(1, 0, 10, 0, 0)", "addWord(1, 14, 10, 0, 0)", "addWord(1, 0, 4, 0, 0)",
                "put(0, 0, 0)", "put(1, 0, 0)", "earliest(2, 0, 0) = 10", "setWord(2, 1, 5)",
                "earliest(2, 0, 0) = 24");
        // its own way out counts, and theirs
        s.run("addWord(1, 0, 10, 0, 0)", "addWord(1, 0, 1, 0, 2)", "put(0, 0, 5)",
                "earliest(1, 0, 0) = 5", "earliest(1, 0, 4) = 9", "earliest(1, 0, 6) = 0",
                "setWord(0, 3, 1)", "put(0, 0, 5)", "earliest(1, 0, 0) = 5", "setWord(1, 0, 6)",
                "earliest(1, 0, 0) = 7", "setWord(1, 0, 14)", "earliest(1, 0, 0) = 15");
        // a shot clears them, or itself in time; in its frame, itself only if it began before
        s.run("addWord(5, 10, 10, 0, 0)", "addWord(5, 3, 60, 0, 0)", "put(0, 0, 0)",
                "earliest(1, 0, 0) = 20", "addShot(14)", "earliest(1, 0, 0) = 14", "addShot(10)",
                "earliest(1, 0, 0) = 3", "removeShot(10)", "addShot(11)", "earliest(1, 0, 0) = 11",
                "addShot(8)", "earliest(1, 0, 0) = 3", "setWord(1, 0, 8)",
                "earliest(1, 0, 0) = 11");
        aWord("Promise 24", "word", "earliest(#, 0, 0)");
        s.of("Promise 24", "- `lane`: 0 to 7");
        s.outOfRange("earliest(0, #, 0)", 0, 7);
        for (String lane : new String[] {"-1", "8", "MIN", "MAX"}) {
            s.run(WORD, "earliest(0, " + lane + ", 0) = INVALID_ARGUMENT");
        }
        s.run(WORD, "earliest(0, 0, 0) = 10", "earliest(0, 7, 0) = 10");
        s.of("Promise 24", "- `column`: 0 to 40 minus the number of its letters");
        s.outOfRange("earliest(0, 0, #)", 0, 39);
        for (int letters = 1; letters <= 12; letters++) {
            s.run("addWord(" + letters + ", 9, 1, 0, 0)",
                    "earliest(0, 7, " + (41 - letters) + ") = INVALID_ARGUMENT",
                    "earliest(0, 7, -1) = INVALID_ARGUMENT",
                    "earliest(0, 7, MIN) = INVALID_ARGUMENT",
                    "earliest(0, 7, MAX) = INVALID_ARGUMENT",
                    "earliest(0, 7, " + (40 - letters) + ") = 9", "earliest(0, 7, 0) = 9");
        }
        earliestReturns();
    }

    private void earliestReturns() {
        s.of("Promise 24", "Returns the frame, from the present first frame of the word to 2000;");
        s.run("addWord(1, 0, 1, 0, 0)", "earliest(0, 0, 0) = 0");
        s.run("addWord(1, 2000, 1, 0, 0)", "earliest(0, 0, 0) = 2000", "earliest(0, 7, 39) = 2000");
        s.run("addWord(5, 1990, 10, 0, 0)", "addWord(5, 1985, 10, 0, 0)", "put(0, 0, 0)",
                "earliest(1, 0, 0) = 2000", "setWord(1, 0, 2000)", "earliest(1, 0, 0) = 2000");
        // not before the present first frame, though there would be room
        s.run("addWord(1, 10, 10, 0, 0)", "addWord(1, 5, 10, 0, 0)", "put(0, 0, 0)",
                "earliest(1, 0, 0) = 20", "setWord(1, 0, 0)", "earliest(1, 0, 0) = 0");
        s.of("Promise 24", "INVALID_ARGUMENT if an argument is out of range;");
        s.anywhere("earliest(-1, -1, -1) = INVALID_ARGUMENT",
                "earliest(12, 8, 40) = INVALID_ARGUMENT",
                "earliest(MIN, MIN, MIN) = INVALID_ARGUMENT",
                "earliest(MAX, MAX, MAX) = INVALID_ARGUMENT");
        s.of("Promise 24", "NONE if there is none.");
        s.run("addWord(5, 1990, 11, 0, 0)", "addWord(5, 1985, 10, 0, 0)", "put(0, 0, 0)",
                "earliest(1, 0, 0) = NONE", "earliest(1, 0, 4) = NONE", "earliest(1, 0, 5) = 1985",
                "earliest(1, 1, 0) = 1985", "addShot(2000)", "earliest(1, 0, 0) = 2000");
        s.run("addWord(1, 2000, 1, 0, 0)", "addWord(1, 2000, 1, 0, 0)", "put(0, 0, 0)",
                "earliest(1, 0, 0) = NONE", "earliest(1, 0, 1) = 2000", "take(0)",
                "earliest(1, 0, 0) = 2000");
    }

    private void filled() {
        s.of("Promise 25", "Counts the cells in which a letter stands in a frame.");
        s.run("addWord(5, 5, 5, 0, 1)", "filled(5) = 0", "put(0, 0, 2)", "filled(4) = 0",
                "filled(5) = 5", "filled(11) = 5", "filled(12) = 4", "filled(15) = 1",
                "filled(16) = 0");
        // two letters in a cell are one cell
        s.run("addWord(3, 5, 9, 0, 0)", "addWord(3, 7, 9, 0, 0)", "addShot(7)", "put(0, 2, 10)",
                "put(1, 2, 11)", "filled(6) = 3", "filled(7) = 3", "removeShot(7)", "filled(7) = 4",
                "filled(13) = 4", "filled(14) = 3");
        s.run("12 x addWord(12, 0, 60, 60, 0)", "putAll() = 12", "filled(0) = 144",
                "filled(119) = 144", "filled(120) = 0");
        // the first and the last column of a row
        s.run("addWord(12, 0, 1, 0, 0)", "addWord(12, 0, 1, 0, 0)", "put(0, 7, 0)", "put(1, 7, 28)",
                "filled(0) = 24");
        s.of("Promise 25", "- `frame`: 0 to 4000");
        s.outOfRange("filled(#)", 0, 4000);
        s.run("addWord(1, 0, 1, 0, 0)", "put(0, 0, 0)", "filled(0) = 1", "filled(4000) = 0");
        s.of("Promise 25", "Returns the number of cells;");
        s.run("filled(0) = 0", "addWord(1, 0, 1, 0, 0)", "put(0, 0, 39)", "filled(0) = 1");
        s.of("Promise 25", "INVALID_ARGUMENT if frame is out of range.");
        s.run(WORD, "put(0, 0, 0)", "filled(-1) = INVALID_ARGUMENT", "filled(10) = 4",
                "filled(4001) = INVALID_ARGUMENT");
    }

    private void questions() {
        s.of("Errors", "Ahead of the calls `pace`, `earliest`, `filled` the interface says: ---- "
                + "questions, which change nothing.");
        s.runQuestion(Sentences.behind(Sentences.SOME, "pace(0) = 12"));
        s.runQuestion(Sentences.behind(Sentences.SOME, "earliest(2, 3, 11) = 18"));
        s.runQuestion(Sentences.behind(Sentences.SOME, "earliest(0, 7, 0) = 5"));
        s.runQuestion(Sentences.behind(Sentences.SOME, "filled(8) = 8"));
        s.runQuestion(Sentences.behind(Sentences.FULL, "earliest(11, 3, 14) = 220"));
        s.runQuestion(Sentences.behind(Sentences.FULL, "filled(100) = 144"));
    }
}
