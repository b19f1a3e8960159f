import java.util.ArrayList;
import java.util.List;

/** The sentences of the promises 1 to 14: a new object, words and shots, putting words. */
final class ActionSentences {
    private static final String WORD = "addWord(4, 10, 20, 30, 2)";

    private final Sentences s;

    private ActionSentences(Sentences s) {
        this.s = s;
    }

    static void all(Sentences s) {
        ActionSentences of = new ActionSentences(s);
        of.newObject();
        of.addWord();
        of.removeWord();
        of.setWord();
        of.addShot();
        of.removeShot();
        of.setSpeed();
        of.append();
        of.clearText();
        of.load();
        of.put();
        of.take();
        of.putAll();
        of.undo();
    }

    /** A promise says that its method is an action: one state more, and undo takes it back. */
    private void anAction(String promise, String call, String... before) {
        s.of(promise, "This is an action.");
        List<String> rows = new ArrayList<>(List.of(before));
        rows.add(call);
        rows.add("undo() = " + before.length);
        s.alike(rows, List.of(before));
        rows.set(before.length + 1, "count(5) = " + (before.length + 1));
        s.run(rows);
    }

    /** The numbers beside those of the words that there are: none, some, twelve. */
    private void aWord(String promise, String name, String call) {
        s.of(promise, "- `" + name + "`: a word");
        for (String number : new String[] {"-1", "12", "MIN", "MAX"}) {
            s.anywhere(call.replace("#", number) + " = INVALID_ARGUMENT");
        }
        s.run(call.replace("#", "0") + " = INVALID_ARGUMENT");
        s.run(Sentences.behind(Sentences.SOME, call.replace("#", "3") + " = INVALID_ARGUMENT"));
        // the number of a word that was removed is free
        s.run(WORD, WORD, "removeWord(0)", call.replace("#", "1") + " = INVALID_ARGUMENT");
        s.run(WORD, "undo()", call.replace("#", "0") + " = INVALID_ARGUMENT");
    }

    private void newObject() {
        s.of("Promise 1", "Creates an empty screen without words and shots, with an empty text.");
        s.run("count(0) = 0", "count(1) = 0", "count(2) = 0", "count(3) = 100", "count(4) = 0",
                "count(5) = 0", "count(6) = 0");
        s.run("word(0, 0) = INVALID_ARGUMENT", "shot(0) = NONE", "onScreen(0) = 0",
                "onScreen(4000) = 0", "filled(0) = 0", "written(0, 0, 0) = NONE",
                "written(7, 39, 4000) = NONE", "pace(0) = 0", "clearText() = 0",
                "undo() = ILLEGAL_STATE");
        s.run("load() = 0", "putAll() = 0", "addWord(1, 0, 1, 0, 0) = 0", "addShot(1) = 1",
                "append(1) = 1", "setSpeed(50) = 100");
    }

    private void addWord() {
        s.of("Promise 2", "Adds a word whose letters are the first ones of the alphabet; it is not "
                + "put.");
        for (int letters = 1; letters <= 12; letters++) {
            List<String> rows = new ArrayList<>();
            rows.add("addWord(" + letters + ", 0, 1, 0, 0) = 0");
            for (int i = 0; i < letters; i++) {
                rows.add("letter(0, " + i + ") = '" + (char) ('a' + i) + "'");
            }
            rows.add("letter(0, " + letters + ") = NONE");
            rows.add("word(0, 7) = " + letters);
            rows.add("word(0, 4) = NONE");
            rows.add("count(1) = 0");
            rows.add("onScreen(0) = 0");
            s.run(rows);
        }
        // in place of a word that had other letters, and was put
        s.run("load(\"say zyx 0 1 0;\")", "put(0, 1, 1)", "removeWord(0)",
                "addWord(2, 0, 1, 0, 0) = 0", "letter(0, 0) = 'a'", "letter(0, 1) = 'b'",
                "letter(0, 2) = NONE", "word(0, 4) = NONE", "count(1) = 0");
        anAction("Promise 2", "addWord(3, 4, 5, 6, 1)", WORD);
        anAction("Promise 2", "addWord(3, 4, 5, 6, 1)");
        s.of("Promise 2", "- `length`: 1 to 12");
        s.outOfRange("addWord(#, 0, 1, 0, 0)", 1, 12);
        s.run("addWord(1, 0, 1, 0, 0) = 0", "word(0, 7) = 1");
        s.run("addWord(12, 0, 1, 0, 0) = 0", "word(0, 7) = 12");
        s.of("Promise 2", "- `frame`: 0 to 2000");
        s.outOfRange("addWord(1, #, 1, 0, 0)", 0, 2000);
        s.run("addWord(1, 0, 1, 0, 0) = 0", "word(0, 0) = 0");
        s.run("addWord(1, 2000, 1, 0, 0) = 0", "word(0, 0) = 2000");
        s.of("Promise 2", "- `spoken`: 1 to 60");
        s.outOfRange("addWord(1, 0, #, 0, 0)", 1, 60);
        s.run("addWord(1, 0, 1, 0, 0) = 0", "word(0, 1) = 1");
        s.run("addWord(1, 0, 60, 0, 0) = 0", "word(0, 1) = 60");
        s.of("Promise 2", "- `held`: 0 to 60");
        s.outOfRange("addWord(1, 0, 1, #, 0)", 0, 60);
        s.run("addWord(1, 0, 1, 0, 0) = 0", "word(0, 2) = 0");
        s.run("addWord(1, 0, 1, 60, 0) = 0", "word(0, 2) = 60");
        s.of("Promise 2", "- `way`: 0 to 4");
        s.outOfRange("addWord(1, 0, 1, 0, #)", 0, 4);
        s.run("addWord(1, 0, 1, 0, 0) = 0", "word(0, 3) = 0");
        s.run("addWord(1, 0, 1, 0, 4) = 0", "word(0, 3) = 4");
        addWordReturns();
    }

    private void addWordReturns() {
        s.of("Promise 2", "Returns its number;");
        s.run("addWord(1, 0, 1, 0, 0) = 0", "addWord(1, 0, 1, 0, 0) = 1",
                "9 x addWord(1, 0, 1, 0, 0)", "addWord(1, 0, 1, 0, 0) = 11");
        s.run("addWord(1, 0, 1, 0, 0) = 0", "addWord(1, 0, 1, 0, 0) = 1", "removeWord(0)",
                "addWord(1, 0, 1, 0, 0) = 1", "undo()", "addWord(1, 0, 1, 0, 0) = 1");
        s.of("Promise 2", "INVALID_ARGUMENT if an argument is out of range;");
        s.anywhere("addWord(0, -1, 0, -1, -1) = INVALID_ARGUMENT",
                "addWord(13, 2001, 61, 61, 5) = INVALID_ARGUMENT",
                "addWord(MIN, MIN, MIN, MIN, MIN) = INVALID_ARGUMENT",
                "addWord(MAX, MAX, MAX, MAX, MAX) = INVALID_ARGUMENT");
        s.of("Promise 2", "CAPACITY_EXCEEDED if there are 12 words.");
        s.run("11 x addWord(1, 0, 1, 0, 0)", "addWord(1, 0, 1, 0, 0) = 11",
                "addWord(1, 0, 1, 0, 0) = CAPACITY_EXCEEDED", "count(0) = 12", "removeWord(11) = 11",
                "addWord(1, 0, 1, 0, 0) = 11", "addWord(1, 0, 1, 0, 0) = CAPACITY_EXCEEDED",
                "undo() = 4", "addWord(1, 0, 1, 0, 0) = 11");
    }

    private void removeWord() {
        s.of("Promise 3", "Removes a word; the numbers of those behind it become smaller by 1.");
        String[] three = {"addWord(1, 10, 1, 0, 0)", "addWord(2, 20, 2, 1, 1)",
            "load(\"say xyz 30 3 2 right;\")", "put(2, 6, 7)", "put(0, 5, 4)"};
        s.run(Sentences.behind(List.of(three), "removeWord(0) = 2", "word(0, 0) = 20",
                "word(0, 4) = NONE", "word(1, 0) = 30", "word(1, 1) = 3", "word(1, 2) = 2",
                "word(1, 3) = 2", "word(1, 4) = 6", "word(1, 5) = 7", "word(1, 7) = 3",
                "letter(1, 0) = 'x'", "letter(1, 2) = 'z'", "word(2, 0) = INVALID_ARGUMENT"));
        s.run(Sentences.behind(List.of(three), "removeWord(1) = 2", "word(0, 0) = 10",
                "word(0, 4) = 5", "word(1, 0) = 30", "word(1, 4) = 6",
                "word(2, 0) = INVALID_ARGUMENT", "onScreen(30) = 2"));
        s.run(Sentences.behind(List.of(three), "removeWord(2) = 2", "word(0, 0) = 10",
                "word(1, 0) = 20", "word(2, 0) = INVALID_ARGUMENT", "onScreen(30) = 0",
                "count(1) = 1"));
        List<String> rows = new ArrayList<>();
        for (int k = 0; k < 12; k++) {
            rows.add("addWord(1, " + k + ", 1, 0, 0)");
        }
        rows.addAll(List.of("removeWord(11) = 11", "removeWord(0) = 10", "word(0, 0) = 1",
                "word(9, 0) = 10", "word(10, 0) = INVALID_ARGUMENT"));
        s.run(rows);
        anAction("Promise 3", "removeWord(0)", WORD, "addWord(2, 3, 4, 5, 1)", "put(0, 1, 2)");
        anAction("Promise 3", "removeWord(1)", WORD, "addWord(2, 3, 4, 5, 1)", "put(1, 1, 2)");
        aWord("Promise 3", "word", "removeWord(#)");
        s.of("Promise 3", "Returns the number of words then;");
        s.run(WORD, WORD, "removeWord(0) = 1", "count(0) = 1", "removeWord(0) = 0", "count(0) = 0");
        s.of("Promise 3", "INVALID_ARGUMENT if there is no such word.");
        s.run(WORD, "removeWord(1) = INVALID_ARGUMENT", "removeWord(0) = 0",
                "removeWord(0) = INVALID_ARGUMENT");
    }

    private void setWord() {
        s.of("Promise 4", "Sets a property of a word.");
        s.run(WORD, WORD, "setWord(1, 0, 7) = 10", "setWord(1, 1, 8) = 20", "setWord(1, 2, 9) = 30",
                "setWord(1, 3, 1) = 2", "word(1, 0) = 7", "word(1, 1) = 8", "word(1, 2) = 9",
                "word(1, 3) = 1", "word(1, 7) = 4", "word(0, 0) = 10", "word(0, 1) = 20",
                "word(0, 2) = 30", "word(0, 3) = 2");
        s.of("Promise 4", "If it was put, it is not put any more.");
        for (String change : new String[] {"0, 7", "0, 10", "1, 7", "1, 20", "2, 7", "2, 30", "3, 1",
            "3, 2"}) {
            s.run(WORD, WORD, "put(0, 1, 2)", "put(1, 5, 2)", "setWord(0, " + change + ")",
                    "word(0, 4) = NONE", "word(0, 5) = NONE", "word(0, 6) = NONE", "count(1) = 1",
                    "word(1, 4) = 5", "take(0) = ILLEGAL_STATE");
        }
        s.run(WORD, "setWord(0, 0, 7)", "word(0, 4) = NONE", "count(1) = 0");
        anAction("Promise 4", "setWord(0, 0, 2000)", WORD, "put(0, 1, 2)");
        anAction("Promise 4", "setWord(0, 1, 20)", WORD, "put(0, 1, 2)");
        anAction("Promise 4", "setWord(0, 3, 4)", WORD);
        aWord("Promise 4", "word", "setWord(#, 0, 5)");
        s.of("Promise 4", "- `what`: 0 its first frame, 1 its spoken frames, 2 its held frames, "
                + "3 its way out");
        s.outOfRange("setWord(0, #, 1)", 0, 3);
        for (String what : new String[] {"-1", "4", "5", "7", "MIN", "MAX"}) {
            s.run(WORD, "put(0, 1, 2)", "setWord(0, " + what + ", 1) = INVALID_ARGUMENT",
                    "word(0, 4) = 1", "word(0, 7) = 4");
        }
        s.of("Promise 4", "- `value`: in its range");
        // least and greatest of each property, and its value in WORD
        int[][] ranges = {{0, 2000, 10}, {1, 60, 20}, {0, 60, 30}, {0, 4, 2}};
        for (int what = 0; what < 4; what++) {
            int[] range = ranges[what];
            String call = "setWord(0, " + what + ", #)";
            s.outOfRange(call, range[0], range[1]);
            for (int value : new int[] {range[0] - 1, range[1] + 1, Integer.MIN_VALUE,
                Integer.MAX_VALUE}) {
                s.run(WORD, "put(0, 1, 2)", call.replace("#", "" + value) + " = INVALID_ARGUMENT",
                        "word(0, " + what + ") = " + range[2], "word(0, 4) = 1");
            }
            s.run(WORD, call.replace("#", "" + range[0]) + " = " + range[2],
                    "word(0, " + what + ") = " + range[0],
                    call.replace("#", "" + range[1]) + " = " + range[0],
                    "word(0, " + what + ") = " + range[1]);
        }
        s.of("Promise 4", "Returns the previous value;");
        s.run(WORD, "setWord(0, 0, 0) = 10", "setWord(0, 0, 0) = 0", "setWord(0, 0, 2000) = 0",
                "setWord(0, 0, 2001) = INVALID_ARGUMENT", "setWord(0, 0, 1) = 2000");
        s.of("Promise 4", "INVALID_ARGUMENT if an argument is out of range.");
        s.anywhere("setWord(-1, -1, -1) = INVALID_ARGUMENT", "setWord(12, 4, 0) = INVALID_ARGUMENT",
                "setWord(0, 3, 60) = INVALID_ARGUMENT", "setWord(0, 1, 2000) = INVALID_ARGUMENT",
                "setWord(MAX, MAX, MAX) = INVALID_ARGUMENT");
    }

    private void addShot() {
        s.of("Promise 5", "Adds a shot.");
        s.run("addShot(7) = 1", "shot(0) = 7", "shot(1) = NONE");
        s.of("Promise 5", "Words stay as they were put.");
        s.run(WORD, WORD, "put(0, 3, 20)", "put(1, 2, 10)", "addShot(11) = 1", "word(0, 4) = 3",
                "word(0, 5) = 20", "word(1, 4) = 2", "word(1, 5) = 10", "count(1) = 2",
                "word(0, 6) = 10");
        anAction("Promise 5", "addShot(11)", WORD, "put(0, 3, 20)");
        anAction("Promise 5", "addShot(3000)", "addShot(5)");
        s.of("Promise 5", "- `frame`: 1 to 3000");
        s.outOfRange("addShot(#)", 1, 3000);
        s.run("addShot(1) = 1", "shot(0) = 1", "addShot(3000) = 2", "shot(1) = 3000");
        s.of("Promise 5", "Returns the number of shots then;");
        s.run("addShot(1) = 1", "addShot(2) = 2", "addShot(3) = 3", "removeShot(2)", "addShot(4) = 3",
                "count(2) = 3");
        s.of("Promise 5", "INVALID_ARGUMENT if frame is out of range;");
        s.run("addShot(0) = INVALID_ARGUMENT", "addShot(-1) = INVALID_ARGUMENT",
                "addShot(3001) = INVALID_ARGUMENT", "addShot(4000) = INVALID_ARGUMENT");
        s.of("Promise 5", "ILLEGAL_STATE if one begins in this frame;");
        s.run("addShot(1)", "addShot(3000)", "addShot(9)", "addShot(1) = ILLEGAL_STATE",
                "addShot(9) = ILLEGAL_STATE", "addShot(3000) = ILLEGAL_STATE", "count(2) = 3",
                "addShot(8) = 4", "addShot(10) = 5");
        s.of("Promise 5", "CAPACITY_EXCEEDED if there are 10 shots.");
        List<String> rows = new ArrayList<>();
        for (int k = 1; k <= 10; k++) {
            rows.add("addShot(" + 10 * k + ") = " + k);
        }
        rows.addAll(List.of("addShot(5) = CAPACITY_EXCEEDED", "addShot(3000) = CAPACITY_EXCEEDED",
                "addShot(100) = ILLEGAL_STATE", "addShot(10) = ILLEGAL_STATE", "count(2) = 10",
                "removeShot(10) = 9", "addShot(5) = 10", "addShot(10) = CAPACITY_EXCEEDED"));
        s.run(rows);
    }

    private void removeShot() {
        s.of("Promise 6", "Removes a shot.");
        s.run("addShot(5)", "addShot(6)", "addShot(7)", "removeShot(6) = 2", "shot(0) = 5",
                "shot(1) = 7", "shot(2) = NONE", "removeShot(7) = 1", "shot(0) = 5",
                "shot(1) = NONE", "removeShot(5) = 0", "shot(0) = NONE");
        s.of("Promise 6", "Words stay as they were put.");
        s.run(WORD, WORD, "put(0, 3, 20)", "addShot(11)", "setWord(1, 0, 11)", "put(1, 3, 20)",
                "removeShot(11) = 0", "word(0, 4) = 3", "word(0, 5) = 20", "word(1, 4) = 3",
                "word(1, 5) = 20", "count(1) = 2", "count(4) = 1", "meeting(0, 1) = 11");
        anAction("Promise 6", "removeShot(11)", "addShot(11)");
        anAction("Promise 6", "removeShot(11)", "addShot(11)", "addShot(9)", WORD, "put(0, 1, 1)");
        s.of("Promise 6", "- `frame`: 1 to 3000");
        s.outOfRange("removeShot(#)", 1, 3000);
        s.run("addShot(1)", "addShot(3000)", "removeShot(3000) = 1", "removeShot(1) = 0");
        s.of("Promise 6", "Returns the number of shots then;");
        List<String> rows = new ArrayList<>();
        for (int k = 1; k <= 10; k++) {
            rows.add("addShot(" + 10 * k + ")");
        }
        for (int k = 1; k <= 10; k++) {
            rows.add("removeShot(" + 10 * k + ") = " + (10 - k));
        }
        s.run(rows);
        s.of("Promise 6", "INVALID_ARGUMENT if frame is out of range;");
        s.run("addShot(1)", "addShot(3000)", "removeShot(0) = INVALID_ARGUMENT",
                "removeShot(3001) = INVALID_ARGUMENT", "removeShot(4001) = INVALID_ARGUMENT");
        s.of("Promise 6", "ILLEGAL_STATE if none begins in this frame.");
        s.run("removeShot(1) = ILLEGAL_STATE", "removeShot(3000) = ILLEGAL_STATE");
        s.run("addShot(9)", "removeShot(8) = ILLEGAL_STATE", "removeShot(10) = ILLEGAL_STATE",
                "removeShot(9) = 0", "removeShot(9) = ILLEGAL_STATE");
        s.run("addShot(9)", "undo()", "removeShot(9) = ILLEGAL_STATE");
    }

    private void setSpeed() {
        s.of("Promise 7", "Sets the percent of the speed.");
        s.run("setSpeed(200)", "count(3) = 200", "addWord(1, 0, 1, 0, 2)", "put(0, 0, 0)",
                "where(0, 1, 1) = 2", "where(0, 2, 1) = 4");
        s.of("Promise 7", "Words stay as they were put.");
        // at another speed they meet, and are put all the same
        s.run("addWord(1, 0, 1, 0, 2)", "addWord(1, 2, 1, 0, 0)", "put(0, 3, 0)", "put(1, 3, 4)",
                "count(4) = 0", "setSpeed(200) = 100", "count(1) = 2", "word(0, 4) = 3",
                "word(0, 5) = 0", "word(1, 4) = 3", "word(1, 5) = 4", "count(4) = 1",
                "meeting(0, 1) = 2");
        anAction("Promise 7", "setSpeed(50)", "addWord(1, 0, 1, 0, 2)", "put(0, 3, 0)");
        anAction("Promise 7", "setSpeed(100)");
        s.of("Promise 7", "- `percent`: 50 to 400");
        s.outOfRange("setSpeed(#)", 50, 400);
        s.run("setSpeed(50) = 100", "count(3) = 50", "setSpeed(400) = 50", "count(3) = 400");
        s.of("Promise 7", "Returns the previous percent;");
        s.run("setSpeed(400) = 100", "setSpeed(400) = 400", "setSpeed(50) = 400", "setSpeed(51) = 50",
                "undo()", "setSpeed(52) = 50");
        s.of("Promise 7", "INVALID_ARGUMENT if percent is out of range.");
        s.run("setSpeed(49) = INVALID_ARGUMENT", "setSpeed(401) = INVALID_ARGUMENT",
                "setSpeed(0) = INVALID_ARGUMENT", "setSpeed(-100) = INVALID_ARGUMENT",
                "count(3) = 100");
    }

    private void append() {
        s.of("Promise 8", "Appends a character to the text.");
        s.run("append(99) = 1", "append(117) = 2", "append(116) = 3", "append(53) = 4",
                "append(59) = 5", "load() = 1", "shot(0) = 5");
        s.of("Promise 8", "- `character`: character code, 1 to 255");
        s.outOfRange("append(#)", 1, 255);
        s.run("append(1) = 1", "append(255) = 2", "count(6) = 2");
        // a code is not cut to a byte, a half, or a character: 32 more than these would be a space
        for (int code : new int[] {256 + 32, 65536 + 32, -256 + 32, 32 - 65536}) {
            s.run("append(" + code + ") = INVALID_ARGUMENT");
        }
        s.of("Promise 8", "Returns the new length of the text;");
        List<String> rows = new ArrayList<>();
        for (int length = 1; length <= 160; length++) {
            rows.add("append(" + (1 + length % 255) + ") = " + length);
        }
        s.run(rows);
        s.run("append(32) = 1", "append(0) = INVALID_ARGUMENT", "append(32) = 2", "clearText()",
                "append(32) = 1", "load()", "append(32) = 1");
        s.of("Promise 8", "INVALID_ARGUMENT if character is out of range;");
        s.run("160 x append(32)", "append(0) = INVALID_ARGUMENT", "append(256) = INVALID_ARGUMENT");
        s.of("Promise 8", "CAPACITY_EXCEEDED if the text already has 160 characters.");
        s.run("159 x append(32)", "append(59) = 160", "append(32) = CAPACITY_EXCEEDED",
                "append(1) = CAPACITY_EXCEEDED", "append(255) = CAPACITY_EXCEEDED", "count(6) = 160",
                "load() = -1159", "clearText() = 160", "append(32) = 1");
    }

    private void clearText() {
        s.of("Promise 9", "Makes the text empty.");
        s.run("append(\"cut 5;\")", "clearText() = 6", "count(6) = 0", "load() = 0", "count(2) = 0");
        s.run("append(\"cut 5;\")", "clearText() = 6", "append(\"cut 6;\")", "load() = 1",
                "shot(0) = 6");
        s.of("Promise 9", "Returns the previous length of the text.");
        s.run("clearText() = 0", "append(1)", "clearText() = 1", "clearText() = 0",
                "160 x append(32)", "clearText() = 160", "clearText() = 0", "count(5) = 0");
    }

    private void load() {
        s.of("Promise 10", "Reads the text.");
        s.run("load(\"say yes 1 2 3 left;cut 9;\") = 2", "count(0) = 1", "count(2) = 1",
                "word(0, 0) = 1", "word(0, 1) = 2", "word(0, 2) = 3", "word(0, 3) = 1",
                "shot(0) = 9");
        s.of("Promise 10", "The text becomes empty.");
        s.run("append(\"cut 9;\")", "load() = 1", "count(6) = 0", "load() = 0", "count(2) = 1",
                "clearText() = 0");
        s.run("append(\"  \")", "load() = 0", "count(6) = 0");
        s.of("Promise 10", "This is one action, also without items.");
        s.run("load() = 0", "count(5) = 1", "load(\"  \") = 0", "count(5) = 2",
                "load(\"cut 1;cut 2;say a 0 1 0;say b 0 1 0;\") = 4", "count(5) = 3", "undo() = 2",
                "count(0) = 0", "count(2) = 0", "undo() = 1", "undo() = 0");
        s.alike(List.of(WORD, "put(0, 1, 2)", "load(\"say b 3 4 5;cut 12;\")", "undo() = 2"),
                List.of(WORD, "put(0, 1, 2)"));
        s.of("Promise 10", "Returns the number of items;");
        s.run("load(\"\") = 0", "load(\"cut 1;\") = 1", "load(\"say a 0 1 0;\") = 1",
                "load(\"cut 2;say b 0 1 0;cut 3;\") = 3");
        s.of("Promise 10", "-1000 minus the error position if the text has an error (then nothing "
                + "changes, and the text is kept).");
        s.run("load(\"x\") = -1000", "count(5) = 0", "clearText() = 1");
        s.run("load(\"cut\") = -1003", "load() = -1003", "append(\"5;\")", "load() = 1",
                "shot(0) = 5");
        s.run(WORD, "put(0, 1, 2)", "addShot(9)", "load(\"say a 1 2 3;cut 4;cut 9;\") = -1022",
                "count(0) = 1", "count(1) = 1", "count(2) = 1", "count(5) = 3", "count(6) = 24",
                "load() = -1022", "removeShot(9)", "load() = 3", "count(0) = 2", "count(2) = 2",
                "word(0, 4) = 1");
        s.run("160 x append(59)", "load() = -1000", "count(6) = 160");
        s.run("append(\"say a 0 1 0\")", "149 x append(32)", "load() = -1160", "count(6) = 160");
    }

    private void put() {
        s.of("Promise 11", "Puts a word at a place, also if it is put already.");
        s.run(WORD, "put(0, 3, 20) = 1", "word(0, 4) = 3", "word(0, 5) = 20", "put(0, 4, 21) = 1",
                "word(0, 4) = 4", "word(0, 5) = 21", "written(3, 20, 10) = NONE",
                "written(4, 21, 10) = 'a'");
        // its own cells do not bar it
        s.run(WORD, "put(0, 3, 20) = 1", "put(0, 3, 21) = 1", "word(0, 5) = 21", "put(0, 3, 21) = 1");
        anAction("Promise 11", "put(0, 3, 20)", WORD);
        anAction("Promise 11", "put(0, 3, 20)", WORD, "put(0, 3, 21)");
        anAction("Promise 11", "put(0, 3, 20)", WORD, "put(0, 3, 20)");
        aWord("Promise 11", "word", "put(#, 0, 0)");
        s.of("Promise 11", "- `lane`: 0 to 7");
        s.outOfRange("put(0, #, 0)", 0, 7);
        for (String lane : new String[] {"-1", "8", "MIN", "MAX"}) {
            s.run(WORD, "put(0, " + lane + ", 0) = INVALID_ARGUMENT", "count(1) = 0");
        }
        s.run(WORD, "put(0, 0, 0) = 1", "word(0, 4) = 0", "put(0, 7, 0) = 1", "word(0, 4) = 7");
        s.of("Promise 11", "- `column`: 0 to 40 minus the number of its letters");
        s.outOfRange("put(0, 0, #)", 0, 39);
        for (int letters = 1; letters <= 12; letters++) {
            s.run("addWord(" + letters + ", 0, 1, 0, 0)",
                    "put(0, 7, " + (41 - letters) + ") = INVALID_ARGUMENT",
                    "put(0, 7, -1) = INVALID_ARGUMENT", "put(0, 7, MIN) = INVALID_ARGUMENT",
                    "put(0, 7, MAX) = INVALID_ARGUMENT", "put(0, 7, " + (40 - letters) + ") = 1",
                    "word(0, 5) = " + (40 - letters), "put(0, 7, 0) = 1", "word(0, 5) = 0");
        }
        putReturns();
    }

    private void putReturns() {
        s.of("Promise 11", "Returns the number of words that are put then;");
        s.run(WORD, WORD, WORD, "put(1, 0, 0) = 1", "put(0, 1, 0) = 2", "put(1, 2, 0) = 2",
                "put(2, 3, 0) = 3", "take(0)", "put(2, 4, 0) = 2");
        List<String> rows = new ArrayList<>();
        rows.add("12 x addWord(1, 0, 1, 0, 0)");
        for (int k = 0; k < 12; k++) {
            rows.add("put(" + k + ", 0, " + 3 * k + ") = " + (k + 1));
        }
        s.run(rows);
        s.of("Promise 11", "INVALID_ARGUMENT if an argument is out of range;");
        s.anywhere("put(-1, -1, -1) = INVALID_ARGUMENT", "put(12, 8, 40) = INVALID_ARGUMENT",
                "put(MIN, MIN, MIN) = INVALID_ARGUMENT", "put(MAX, MAX, MAX) = INVALID_ARGUMENT");
        s.of("Promise 11", "ILLEGAL_STATE if it would meet another word in some frame.");
        s.run("addWord(3, 0, 9, 0, 0)", "addWord(3, 8, 9, 0, 0)", "put(0, 3, 10)",
                "put(1, 3, 12) = ILLEGAL_STATE", "put(1, 3, 8) = ILLEGAL_STATE", "count(1) = 1",
                "word(1, 4) = NONE", "put(1, 3, 13) = 2", "put(1, 3, 10) = ILLEGAL_STATE",
                "word(1, 5) = 13", "put(1, 3, 7) = 2");
        // the last of its frames, on the way out
        s.run("addWord(3, 0, 1, 0, 1)", "addWord(1, 22, 1, 0, 0)", "put(0, 3, 20)",
                "put(1, 3, 0) = ILLEGAL_STATE", "put(1, 3, 1) = 2", "setWord(1, 0, 23)",
                "put(1, 3, 0) = 2");
        // a word that is not put is met by none
        s.run("addWord(3, 0, 9, 0, 0)", "addWord(3, 0, 9, 0, 0)", "put(0, 3, 10)", "take(0)",
                "put(1, 3, 10) = 1", "put(0, 3, 10) = ILLEGAL_STATE");
        // that two others meet already does not matter
        s.run("addWord(3, 0, 9, 0, 0)", "addWord(3, 5, 9, 0, 0)", WORD, "put(0, 3, 10)", "addShot(5)",
                "put(1, 3, 10)", "removeShot(5)", "count(4) = 1", "put(2, 4, 10) = 3",
                "put(1, 3, 10) = ILLEGAL_STATE", "put(1, 5, 10) = 3", "count(4) = 0");
        // each of many others counts, the last one, too
        s.run("12 x addWord(1, 0, 9, 0, 0)", "put(11, 0, 5)", "put(0, 0, 5) = ILLEGAL_STATE",
                "put(0, 0, 6) = 2", "put(11, 0, 6) = ILLEGAL_STATE");
    }

    private void take() {
        s.of("Promise 12", "Takes a word from its place.");
        s.run(WORD, WORD, "put(0, 3, 20)", "put(1, 4, 20)", "take(0) = 1", "word(0, 4) = NONE",
                "word(0, 5) = NONE", "word(0, 6) = NONE", "onScreen(10) = 2", "word(1, 4) = 4",
                "word(0, 0) = 10", "word(0, 7) = 4");
        anAction("Promise 12", "take(0)", WORD, "put(0, 3, 20)");
        aWord("Promise 12", "word", "take(#)");
        s.of("Promise 12", "Returns the number of words that are put then;");
        s.run("12 x addWord(1, 0, 1, 0, 0)", "putAll() = 12", "take(11) = 11", "take(0) = 10",
                "take(5) = 9", "count(1) = 9");
        s.run(WORD, "put(0, 3, 20)", "take(0) = 0", "count(1) = 0");
        s.of("Promise 12", "INVALID_ARGUMENT if there is no such word;");
        s.run("take(0) = INVALID_ARGUMENT");
        s.run(WORD, "put(0, 3, 20)", "take(1) = INVALID_ARGUMENT", "take(-1) = INVALID_ARGUMENT",
                "count(1) = 1");
        s.of("Promise 12", "ILLEGAL_STATE if it is not put.");
        s.run(WORD, "take(0) = ILLEGAL_STATE", "put(0, 3, 20)", "take(0) = 0",
                "take(0) = ILLEGAL_STATE", "undo()", "take(0) = 0");
        s.run(WORD, "put(0, 3, 20)", "setWord(0, 0, 10)", "take(0) = ILLEGAL_STATE");
    }

    private void putAll() {
        s.of("Promise 13", "Puts all words.");
        s.run(WORD, WORD, "putAll() = 2", "word(0, 4) = 3", "word(0, 5) = 18", "word(1, 4) = 3",
                "word(1, 5) = 14");
        anAction("Promise 13", "putAll()", WORD, "addWord(5, 10, 20, 0, 1)");
        anAction("Promise 13", "putAll()", WORD, "putAll()");
        anAction("Promise 13", "putAll()");
        s.of("Promise 13", "Returns the number of words that are put then.");
        s.run("putAll() = 0", "count(1) = 0");
        s.run("12 x addWord(12, 0, 60, 60, 4)", "putAll() = 12", "count(1) = 12", "count(4) = 0");
        // words without a place are not counted
        s.run("3 x addWord(12, 0, 10, 0, 3)", "3 x addWord(12, 0, 10, 0, 4)",
                "6 x addWord(12, 0, 13, 0, 0)", "putAll() = 6", "count(1) = 6");
    }

    private void undo() {
        s.of("Promise 14", "Removes the latest state from the history and restores it.");
        s.run("addShot(5)", "addShot(6)", "undo() = 1", "count(2) = 1", "shot(0) = 5", "undo() = 0",
                "count(2) = 0");
        s.run("load(\"say zy 0 1 0;\")", "put(0, 3, 4)", "removeWord(0)", "addWord(2, 9, 9, 9, 1)",
                "undo() = 3", "undo() = 2", "letter(0, 0) = 'z'", "letter(0, 1) = 'y'",
                "word(0, 0) = 0", "word(0, 4) = 3", "word(0, 5) = 4");
        s.of("Promise 14", "Returns the number of states that are left in the history;");
        s.run("7 x setSpeed(101)", "undo() = 4", "undo() = 3", "undo() = 2", "undo() = 1",
                "undo() = 0");
        s.of("Promise 14", "ILLEGAL_STATE if it is empty.");
        s.run("undo() = ILLEGAL_STATE", "addShot(5)", "undo() = 0", "undo() = ILLEGAL_STATE",
                "count(2) = 0");
        s.run("append(\"cut 5;\")", "undo() = ILLEGAL_STATE", "clearText()", "undo() = ILLEGAL_STATE");
    }
}
