import java.util.ArrayList;
import java.util.List;

/** The sentences of "What it is", and of the terms from the screen to putting all words. */
final class ScreenSentences {
    private static final int[][] SPANS = {{1, 0}, {1, 60}, {60, 0}, {60, 60}, {7, 5}};

    private final Sentences s;

    private ScreenSentences(Sentences s) {
        this.s = s;
    }

    static void all(Sentences s) {
        ScreenSentences of = new ScreenSentences(s);
        of.calls();
        of.screen();
        of.twelveWords();
        of.rangesOfWords();
        of.lettersOnTheScreen();
        of.standing();
        of.moving();
        of.gone();
        of.tenShots();
        of.shotsClear();
        of.onTheScreen();
        of.lettersOff();
        of.meeting();
        of.nonePut();
        of.orderOfWords();
        of.orderOfPlaces();
        of.withoutPlace();
    }

    // ---- What it is

    private void calls() {
        s.of("What it is", "An object is used for at most 512 calls after it has been made; "
                + "what later calls answer is free.");
        s.run("511 x load() = 0", "count(5) = 5");
        s.run("12 x addWord(12, 0, 60, 60, 4)", "499 x putAll() = 12", "count(4) = 0");
        s.run("addWord(1, 0, 1, 0, 0)", "511 x put(0, 7, 39) = 1");
        s.run("addWord(1, 0, 1, 0, 0)", "addWord(1, 2000, 60, 0, 0)", "put(1, 0, 0)",
                "508 x earliest(0, 0, 0) = 0", "word(1, 6) = 2059");
        s.run("511 x addWord(0, 0, 1, 0, 0) = INVALID_ARGUMENT",
                "load(\"\") = 0");
        List<String> speeds = new ArrayList<>();
        int before = 100;
        for (int call = 0; call < 512; call++) {
            int percent = 50 + call % 351;
            speeds.add("setSpeed(" + percent + ") = " + before);
            before = percent;
        }
        s.run(speeds);
        List<String> shots = new ArrayList<>();
        List<String> words = new ArrayList<>();
        for (int call = 0; call < 256; call++) {
            shots.add("addShot(3000) = 1");
            shots.add(call % 2 == 0 ? "removeShot(3000) = 0" : "undo() = " + (call == 1 ? 2 : 4));
            words.add("addWord(12, 2000, 60, 60, 4) = 0");
            words.add("removeWord(0) = 0");
        }
        s.run(shots);
        s.run(words);
        s.run("160 x append(1)", "clearText() = 160", "160 x append(255)", "clearText() = 160",
                "160 x append(59)", "clearText() = 160", "28 x append(32)", "clearText() = 28");
    }

    // ---- Terms

    private void screen() {
        s.of("Terms", "Frames are numbered from 0.");
        s.run("addWord(1, 0, 1, 0, 0) = 0", "put(0, 0, 0) = 1", "where(0, 0, 0) = 0",
                "where(0, 0, 1) = 0", "onScreen(0) = 1", "filled(0) = 1", "written(0, 0, 0) = 'a'",
                "pace(0) = 25", "earliest(0, 0, 0) = 0", "word(0, 6) = 0", "onScreen(1) = 0");
        s.run("addWord(1, -1, 1, 0, 0) = INVALID_ARGUMENT");
        s.of("Terms", "The screen has 8 rows (lanes), 0 to 7 from the top, and 40 columns, "
                + "0 to 39 from the left.");
        s.run("addWord(1, 0, 1, 0, 3)", "put(0, 7, 39)", "written(7, 39, 0) = 'a'",
                "written(0, 39, 7) = 'a'", "word(0, 6) = 7", "where(0, 8, 0) = NONE");
        s.run("addWord(1, 0, 1, 0, 3)", "put(0, 0, 0)", "written(0, 0, 0) = 'a'", "word(0, 6) = 0");
        s.run("addWord(1, 0, 1, 0, 4)", "put(0, 0, 0)", "written(0, 0, 0) = 'a'",
                "written(7, 0, 7) = 'a'", "word(0, 6) = 7", "where(0, 8, 0) = NONE");
        s.run("addWord(1, 0, 1, 0, 4)", "put(0, 7, 0)", "written(7, 0, 0) = 'a'", "word(0, 6) = 0");
        s.run("addWord(1, 0, 1, 0, 1)", "put(0, 0, 39)", "written(0, 39, 0) = 'a'",
                "written(0, 0, 39) = 'a'", "word(0, 6) = 39", "where(0, 40, 0) = NONE");
        s.run("addWord(1, 0, 1, 0, 1)", "put(0, 7, 0)", "written(7, 0, 0) = 'a'", "word(0, 6) = 0");
        s.run("addWord(1, 0, 1, 0, 2)", "put(0, 7, 0)", "written(7, 0, 0) = 'a'",
                "written(7, 39, 39) = 'a'", "word(0, 6) = 39", "where(0, 40, 0) = NONE");
        s.run("addWord(1, 0, 1, 0, 2)", "put(0, 0, 39)", "written(0, 39, 0) = 'a'",
                "word(0, 6) = 0");
        for (String place : new String[] {"-1, 0", "8, 0", "0, -1", "0, 40"}) {
            s.run("addWord(1, 0, 1, 0, 0)", "put(0, " + place + ") = INVALID_ARGUMENT",
                    "written(" + place + ", 0) = INVALID_ARGUMENT");
        }
    }

    // ---- Words

    private void twelveWords() {
        s.of("Words", "There are at most 12 words, numbered from 0 in the order in which they "
                + "were added.");
        List<String> rows = new ArrayList<>();
        for (int k = 0; k < 12; k++) {
            rows.add("addWord(1, " + (50 - k) + ", 1, 0, 0) = " + k);
        }
        rows.add("count(0) = 12");
        rows.add("addWord(1, 0, 1, 0, 0) = CAPACITY_EXCEEDED");
        rows.add("count(0) = 12");
        for (int k = 0; k < 12; k++) {
            rows.add("word(" + k + ", 0) = " + (50 - k));
        }
        rows.add("word(12, 0) = INVALID_ARGUMENT");
        rows.add("word(-1, 0) = INVALID_ARGUMENT");
        s.run(rows);
        s.run("load(\"say l0 1 0;say k0 1 0;say j0 1 0;say i0 1 0;say h0 1 0;say g0 1 0;"
                + "say f0 1 0;say e0 1 0;say d0 1 0;say c0 1 0;say b0 1 0;say a0 1 0;\") = 12",
                "letter(0, 0) = 'l'", "letter(1, 0) = 'k'", "letter(11, 0) = 'a'",
                "load(\"say a0 1 0;\") = -1000", "count(0) = 12");
        s.run("addWord(1, 9, 1, 0, 0) = 0", "load(\"say a 8 1 0;say b 7 1 0;\") = 2",
                "addWord(1, 6, 1, 0, 0) = 3", "word(0, 0) = 9", "word(1, 0) = 8", "word(2, 0) = 7",
                "word(3, 0) = 6");
        s.run("word(0, 0) = INVALID_ARGUMENT", "count(0) = 0");
    }

    private void rangesOfWords() {
        s.of("Words", "A word has 1 to 12 letters a to z, a first frame from 0 to 2000, a number "
                + "of frames in which it is spoken, 1 to 60, and in which it is held, 0 to 60, and "
                + "a way out: 0 none, 1 to the left, 2 to the right, 3 upward, 4 downward.");
        s.run("addWord(1, 0, 1, 0, 0) = 0", "word(0, 7) = 1", "word(0, 0) = 0", "word(0, 1) = 1",
                "word(0, 2) = 0", "word(0, 3) = 0");
        s.run("addWord(12, 2000, 60, 60, 4) = 0", "word(0, 7) = 12", "word(0, 0) = 2000",
                "word(0, 1) = 60", "word(0, 2) = 60", "word(0, 3) = 4");
        String[] wrong = {"0, 0, 1, 0, 0", "13, 0, 1, 0, 0", "1, -1, 1, 0, 0", "1, 2001, 1, 0, 0",
            "1, 0, 0, 0, 0", "1, 0, 61, 0, 0", "1, 0, 1, -1, 0", "1, 0, 1, 61, 0",
            "1, 0, 1, 0, -1", "1, 0, 1, 0, 5"};
        for (String word : wrong) {
            s.anywhere("addWord(" + word + ") = INVALID_ARGUMENT");
        }
        s.run("load(\"say a 0 1 0;\") = 1", "word(0, 7) = 1", "word(0, 0) = 0", "word(0, 1) = 1",
                "word(0, 2) = 0", "word(0, 3) = 0");
        s.run("load(\"say abcdefghijkl 2000 60 60 down;\") = 1", "word(0, 7) = 12",
                "word(0, 0) = 2000", "word(0, 1) = 60", "word(0, 2) = 60", "word(0, 3) = 4");
        s.run("load(\"say az 0 1 0;\") = 1", "letter(0, 0) = 97", "letter(0, 1) = 122");
        for (String sign : new String[] {"`", "{", "A", "Z", "@", "["}) {
            s.run("load(\"say " + sign + " 0 1 0;\") = -1004");
        }
        // where the word is in the first frame of its way out
        s.run(wordAt(0, "onScreen(1) = 0"));
        s.run(wordAt(1, "where(0, 1, 0) = 4", "where(0, 1, 1) = 19"));
        s.run(wordAt(2, "where(0, 1, 0) = 4", "where(0, 1, 1) = 21"));
        s.run(wordAt(3, "where(0, 1, 0) = 3", "where(0, 1, 1) = 20"));
        s.run(wordAt(4, "where(0, 1, 0) = 5", "where(0, 1, 1) = 20"));
    }

    private static List<String> wordAt(int way, String... rows) {
        return Sentences.behind(List.of("addWord(3, 0, 1, 0, " + way + ")", "put(0, 4, 20)",
                "where(0, 0, 0) = 4", "where(0, 0, 1) = 20"), rows);
    }

    private void lettersOnTheScreen() {
        s.of("Words", "It is put at a place, a lane and a column for its first letter, with which "
                + "all its letters lie on the screen, or it is not put.");
        for (int letters = 1; letters <= 12; letters++) {
            int last = 40 - letters;
            char sign = (char) ('a' + letters - 1);
            s.run("addWord(" + letters + ", 0, 1, 0, 0)", "word(0, 4) = NONE", "word(0, 5) = NONE",
                    "where(0, 0, 0) = NONE", "put(0, 0, " + (last + 1) + ") = INVALID_ARGUMENT",
                    "put(0, 0, -1) = INVALID_ARGUMENT", "put(0, 0, " + last + ") = 1",
                    "word(0, 4) = 0", "word(0, 5) = " + last, "written(0, " + last + ", 0) = 'a'",
                    "written(0, 39, 0) = '" + sign + "'", "filled(0) = " + letters,
                    "put(0, 7, 0) = 1", "written(7, 0, 0) = 'a'",
                    "written(7, " + (letters - 1) + ", 0) = '" + sign + "'",
                    "written(7, " + letters + ", 0) = NONE", "filled(0) = " + letters);
        }
    }

    private void standing() {
        s.of("Words", "Let L be its number of letters, a its first frame, and b = a + (spoken "
                + "frames) + (held frames).");
        for (int[] span : SPANS) {
            int last = 7 + span[0] + span[1] - 1;
            s.run("addWord(3, 7, " + span[0] + ", " + span[1] + ", 0)", "put(0, 3, 15)",
                    "word(0, 6) = " + last, "onScreen(" + last + ") = 1",
                    "onScreen(" + (last + 1) + ") = 0");
        }
        s.of("Words", "From the frame a to the frame b - 1 it stands at its place.");
        for (int way = 0; way <= 4; way++) {
            for (int a : new int[] {0, 10, 2000}) {
                for (int[] span : SPANS) {
                    standing(a, span, way);
                }
            }
        }
    }

    private void standing(int a, int[] span, int way) {
        int b = a + span[0] + span[1];
        int row = way == 3 ? 2 : way == 4 ? 4 : 3;
        int column = way == 1 ? 14 : way == 2 ? 16 : 15;
        String before = a == 0 ? "onScreen(0) = 1" : "onScreen(" + (a - 1) + ") = 0";
        s.run("addWord(3, " + a + ", " + span[0] + ", " + span[1] + ", " + way + ")",
                "put(0, 3, 15)", before, at(a, 0, "3"), at(a, 1, "15"), at(b - 1, 0, "3"),
                at(b - 1, 1, "15"), at(b, 0, way == 0 ? "NONE" : String.valueOf(row)),
                at(b, 1, way == 0 ? "NONE" : String.valueOf(column)));
    }

    private static String at(int frame, int what, String due) {
        return "where(0, " + frame + ", " + what + ") = " + due;
    }

    private void moving() {
        s.of("Words", "In the frame b - 1 + i, with i of 1 or greater, it has moved by (int) "
                + "((float) i * v) cells in the direction of its way out, where v is the speed: "
                + "the percent, 50 to 400 (at first 100), as a float, divided by 100.0f.");
        // the percent, i, and the cells; the last lines differ in double, or added up in float
        int[][] rows = {{50, 1, 0}, {50, 2, 1}, {50, 3, 1}, {50, 79, 39}, {51, 1, 0}, {51, 2, 1},
            {99, 1, 0}, {99, 2, 1}, {99, 39, 38}, {100, 1, 1}, {100, 39, 39}, {101, 1, 1},
            {101, 38, 38}, {199, 1, 1}, {200, 1, 2}, {399, 1, 3}, {399, 10, 39}, {400, 1, 4},
            {400, 9, 36}, {70, 10, 7}, {52, 25, 13}, {65, 60, 39}, {58, 50, 29}, {116, 25, 29},
            {55, 40, 22}, {60, 10, 6}, {64, 50, 32}, {66, 50, 33}, {76, 50, 38}};
        for (int[] r : rows) {
            String speed = "setSpeed(" + r[0] + ")";
            int frame = 9 + r[1];
            s.run(speed, "addWord(12, 5, 3, 2, 2)", "put(0, 2, 0)", at(9, 1, "0"),
                    at(frame, 1, String.valueOf(r[2])), at(frame, 0, "2"));
            int left = 28 - r[2];
            s.run(speed, "addWord(12, 5, 3, 2, 1)", "put(0, 2, 28)", at(9, 1, "28"),
                    at(frame, 1, String.valueOf(left < 0 ? left - 1000 : left)), at(frame, 0, "2"));
            String up = r[2] > 7 ? "NONE" : String.valueOf(7 - r[2]);
            s.run(speed, "addWord(12, 5, 3, 2, 3)", "put(0, 7, 1)", at(9, 0, "7"),
                    at(frame, 0, up), at(frame, 1, r[2] > 7 ? "NONE" : "1"));
            String down = r[2] > 7 ? "NONE" : String.valueOf(r[2]);
            s.run(speed, "addWord(12, 5, 3, 2, 4)", "put(0, 0, 1)", at(9, 0, "0"),
                    at(frame, 0, down), at(frame, 1, r[2] > 7 ? "NONE" : "1"));
        }
        s.run("count(3) = 100", "addWord(1, 0, 1, 0, 2)", "put(0, 0, 0)", at(0, 1, "0"),
                at(1, 1, "1"), at(2, 1, "2"), at(39, 1, "39"));
        s.run("setSpeed(49) = INVALID_ARGUMENT", "setSpeed(401) = INVALID_ARGUMENT");
    }

    private void gone() {
        s.of("Words", "It is gone in each frame in which none of its letters would lie on the "
                + "screen any more, and in all later ones; without a way out, it is gone from the "
                + "frame b on.");
        // percent, letters, way, lane, column, and the last frame of a word with b = 1
        int[][] rows = {
            {100, 3, 1, 0, 2, 4}, {100, 3, 1, 7, 0, 2}, {100, 12, 1, 3, 28, 39},
            {400, 4, 1, 0, 0, 0}, {400, 5, 1, 0, 0, 1}, {400, 12, 1, 0, 28, 9},
            {50, 1, 1, 0, 0, 1}, {50, 12, 1, 0, 28, 79},
            {100, 3, 2, 0, 36, 3}, {100, 3, 2, 7, 37, 2}, {100, 12, 2, 3, 0, 39},
            {400, 1, 2, 0, 36, 0}, {400, 1, 2, 0, 35, 1}, {400, 12, 2, 0, 0, 9},
            {50, 1, 2, 0, 39, 1}, {50, 12, 2, 0, 0, 79},
            {100, 3, 3, 2, 5, 2}, {100, 3, 3, 0, 5, 0}, {100, 12, 3, 7, 0, 7},
            {400, 3, 3, 3, 5, 0}, {400, 3, 3, 4, 5, 1}, {50, 3, 3, 0, 5, 1}, {50, 3, 3, 7, 5, 15},
            {100, 3, 4, 5, 5, 2}, {100, 3, 4, 7, 5, 0}, {100, 12, 4, 0, 0, 7},
            {400, 3, 4, 4, 5, 0}, {400, 3, 4, 3, 5, 1}, {50, 3, 4, 7, 5, 1}, {50, 3, 4, 0, 5, 15},
            {50, 3, 0, 3, 5, 0}, {400, 12, 0, 0, 28, 0}, {100, 1, 0, 7, 39, 0}};
        for (int[] r : rows) {
            int next = r[5] + 1;
            s.run("setSpeed(" + r[0] + ")", "addWord(" + r[1] + ", 0, 1, 0, " + r[2] + ")",
                    "put(0, " + r[3] + ", " + r[4] + ")", "word(0, 6) = " + r[5],
                    "onScreen(" + r[5] + ") = 1", "onScreen(" + next + ") = 0",
                    at(next, 0, "NONE"), at(next, 1, "NONE"), "filled(" + next + ") = 0",
                    "onScreen(" + (next + 1) + ") = 0", "onScreen(200) = 0", "onScreen(4000) = 0",
                    "filled(4000) = 0", at(4000, 0, "NONE"));
        }
        // no letter is left in 80 frames, even of the latest and slowest word
        s.run("setSpeed(50)", "addWord(12, 2000, 60, 60, 2)", "put(0, 0, 0)", "word(0, 6) = 2198",
                at(2198, 1, "39"), at(2199, 1, "NONE"));
    }

    // ---- Shots

    private void tenShots() {
        s.of("Shots", "There are at most 10 shots, each beginning in a frame from 1 to 3000, no "
                + "two in the same one.");
        s.run("addShot(1) = 1", "addShot(3000) = 2", "addShot(2) = 3", "addShot(2999) = 4",
                "addShot(50) = 5", "addShot(60) = 6", "addShot(70) = 7", "addShot(80) = 8",
                "addShot(90) = 9", "addShot(100) = 10", "addShot(110) = CAPACITY_EXCEEDED",
                "addShot(1) = ILLEGAL_STATE", "addShot(3000) = ILLEGAL_STATE", "count(2) = 10",
                "shot(0) = 1", "shot(1) = 2", "shot(8) = 2999", "shot(9) = 3000", "shot(10) = NONE");
        s.run("addShot(7) = 1", "addShot(7) = ILLEGAL_STATE", "addShot(8) = 2", "addShot(6) = 3",
                "addShot(8) = ILLEGAL_STATE", "addShot(6) = ILLEGAL_STATE", "count(2) = 3");
        s.anywhere("addShot(0) = INVALID_ARGUMENT", "addShot(3001) = INVALID_ARGUMENT");
        s.run("load(\"cut 1;cut 3000;\") = 2", "shot(0) = 1", "shot(1) = 3000");
        s.run("load(\"cut 0;\") = -1004");
        s.run("load(\"cut 3001;\") = -1004");
        s.run("load(\"cut1;cut2;cut3;cut4;cut5;cut6;cut7;cut8;cut9;cut10;\") = 10",
                "load(\"cut11;\") = -1000");
        s.run("shot(0) = NONE", "count(2) = 0");
    }

    private void shotsClear() {
        s.of("Shots", "If a shot begins in a frame that is greater than the first frame of a word, "
                + "the word is gone from that frame on.");
        // a word with a = 10, b = 20, and its last frame with a shot
        int[][] rows = {{1, 19}, {9, 19}, {10, 19}, {11, 10}, {12, 11}, {19, 18}, {20, 19},
            {21, 19}, {3000, 19}};
        for (int[] r : rows) {
            s.run("addWord(3, 10, 6, 4, 0)", "put(0, 2, 5)", "addShot(" + r[0] + ")",
                    "word(0, 6) = " + r[1], "onScreen(9) = 0", "onScreen(10) = 1",
                    "onScreen(" + r[1] + ") = 1", "onScreen(" + (r[1] + 1) + ") = 0",
                    "onScreen(" + (r[1] + 2) + ") = 0", "filled(" + (r[1] + 1) + ") = 0");
        }
        s.run("addWord(3, 10, 6, 4, 1)", "put(0, 2, 5)", "word(0, 6) = 26", "addShot(27)",
                "word(0, 6) = 26", "addShot(26)", "word(0, 6) = 25", "addShot(24)",
                "word(0, 6) = 23", at(23, 1, "1"), at(24, 1, "NONE"), "removeShot(24)",
                "word(0, 6) = 25");
        s.run("addWord(1, 0, 60, 60, 0)", "put(0, 0, 0)", "addShot(1)", "word(0, 6) = 0");
        s.run("addWord(1, 2000, 60, 60, 0)", "put(0, 0, 0)", "addShot(2000)", "word(0, 6) = 2119",
                "addShot(2001)", "word(0, 6) = 2000");
        // the first one behind the first frame clears it, in whatever order they were added
        s.run("addWord(1, 10, 60, 0, 0)", "put(0, 0, 0)", "addShot(40)", "addShot(5)",
                "addShot(30)", "addShot(50)", "word(0, 6) = 29", "removeShot(30)",
                "word(0, 6) = 39", "removeShot(40)", "word(0, 6) = 49");
        // each word by its own first frame
        s.run("addWord(1, 10, 60, 0, 0)", "addWord(1, 20, 60, 0, 0)", "put(0, 0, 0)",
                "put(1, 1, 0)", "addShot(20)", "onScreen(19) = 1", "onScreen(20) = 2");
    }

    private void onTheScreen() {
        s.of("Shots", "A word that is put is on the screen in all frames from its first one on in "
                + "which it is not gone.");
        s.run("addWord(3, 10, 6, 4, 2)", "onScreen(10) = 0", "put(0, 7, 36)", "onScreen(9) = 0",
                "onScreen(10) = 1", "onScreen(19) = 1", "onScreen(20) = 1", "onScreen(21) = 1",
                "onScreen(22) = 1", "onScreen(23) = 0", "take(0)", "onScreen(10) = 0",
                "onScreen(22) = 0", at(10, 0, "NONE"), "written(7, 36, 10) = NONE");
        s.run("addWord(1, 0, 1, 0, 0)", "put(0, 0, 0)", "onScreen(0) = 1", "onScreen(1) = 0");
        s.run("addWord(1, 2000, 1, 0, 0)", "put(0, 0, 0)", "onScreen(1999) = 0",
                "onScreen(2000) = 1", "onScreen(2001) = 0");
    }

    private void lettersOff() {
        s.of("Shots", "Letters that have moved off the screen are not there.");
        s.run("addWord(3, 0, 1, 0, 1)", "put(0, 0, 0)", "filled(0) = 3", "filled(1) = 2",
                "written(0, 0, 1) = 'b'", "written(0, 1, 1) = 'c'", "written(0, 2, 1) = NONE",
                "filled(2) = 1", "written(0, 0, 2) = 'c'", "written(0, 1, 2) = NONE",
                "filled(3) = 0", "written(0, 0, 3) = NONE");
        s.run("addWord(3, 0, 1, 0, 2)", "put(0, 7, 37)", "filled(0) = 3", "filled(1) = 2",
                "written(7, 39, 1) = 'b'", "written(7, 38, 1) = 'a'", "written(7, 37, 1) = NONE",
                "filled(2) = 1", "written(7, 39, 2) = 'a'", "written(7, 38, 2) = NONE",
                "filled(3) = 0", "written(7, 39, 3) = NONE");
        s.run("addWord(3, 0, 1, 0, 3)", "put(0, 0, 5)", "filled(0) = 3", "filled(1) = 0",
                "written(0, 5, 1) = NONE");
        s.run("addWord(3, 0, 1, 0, 4)", "put(0, 7, 5)", "filled(0) = 3", "filled(1) = 0",
                "written(7, 5, 1) = NONE");
        // what has left to the right does not come in again from the left, in the next lane
        s.run("addWord(3, 0, 1, 0, 2)", "put(0, 3, 37)", "written(4, 0, 1) = NONE",
                "written(3, 0, 1) = NONE", "addWord(1, 0, 9, 0, 0)", "put(1, 4, 0) = 2");
        // and what leaves to the left is out of the way of a word that comes then
        s.run("addWord(3, 0, 1, 0, 1)", "addWord(1, 2, 9, 0, 0)", "put(0, 3, 0)",
                "put(1, 3, 0) = ILLEGAL_STATE", "put(1, 3, 1) = 2", "setWord(1, 0, 3)",
                "put(1, 3, 0) = 2");
    }

    private void meeting() {
        s.of("Shots", "Two words that are put meet in a frame if both are on the screen, and "
                + "letters of both lie in the same cell.");
        // side by side, and one letter in the same cell
        s.run("addWord(5, 0, 9, 0, 0)", "addWord(3, 0, 9, 0, 0)", "put(0, 4, 10)",
                "put(1, 4, 15) = 2", "put(1, 4, 14) = ILLEGAL_STATE", "put(1, 4, 7) = 2",
                "put(1, 4, 8) = ILLEGAL_STATE", "put(1, 4, 11) = ILLEGAL_STATE", "put(1, 3, 11) = 2",
                "put(1, 5, 11) = 2", "count(4) = 0");
        // the last frame of the one, the first frame of the other
        s.run("addWord(5, 0, 9, 0, 0)", "addWord(5, 8, 9, 0, 0)", "put(0, 4, 10)",
                "put(1, 4, 10) = ILLEGAL_STATE", "setWord(1, 0, 9)", "put(1, 4, 10) = 2",
                "meeting(0, 1) = NONE");
        // only on the way out, in one frame alone
        s.run("addWord(1, 0, 1, 0, 2)", "addWord(1, 5, 1, 0, 0)", "put(0, 4, 0)",
                "put(1, 4, 5) = ILLEGAL_STATE", "put(1, 4, 4) = 2", "put(1, 4, 6) = 2");
        s.run("addWord(1, 0, 1, 0, 4)", "addWord(1, 7, 1, 0, 0)", "put(0, 0, 9)",
                "put(1, 7, 9) = ILLEGAL_STATE", "put(1, 6, 9) = 2", "put(1, 7, 8) = 2");
        // one that leaves upward or downward passes one that does so later, in another lane
        s.run("addWord(1, 0, 1, 0, 3)", "addWord(1, 0, 9, 0, 3)", "put(0, 6, 9)",
                "put(1, 2, 9) = ILLEGAL_STATE", "put(1, 2, 8) = 2");
        s.run("addWord(1, 0, 1, 0, 4)", "addWord(1, 0, 9, 0, 4)", "put(0, 1, 9)",
                "put(1, 5, 9) = ILLEGAL_STATE", "put(1, 5, 10) = 2");
        s.run("addWord(1, 0, 1, 0, 4)", "addWord(1, 0, 1, 0, 3)", "put(0, 1, 9)",
                "put(1, 5, 9) = ILLEGAL_STATE", "put(1, 4, 9) = 2");
        s.run("addWord(1, 0, 1, 0, 3)", "addWord(1, 0, 1, 0, 3)", "put(0, 6, 9)",
                "put(1, 5, 9) = 2");
        // words that jump over each other, or change cells, do not meet
        s.run("addWord(1, 0, 1, 0, 2)", "addWord(1, 0, 1, 0, 1)", "put(0, 4, 0)",
                "put(1, 4, 3) = 2", "meeting(0, 1) = NONE", "put(1, 4, 4) = ILLEGAL_STATE");
        s.run("setSpeed(200)", "addWord(1, 0, 1, 0, 2)", "addWord(1, 0, 9, 0, 0)", "put(0, 4, 0)",
                "put(1, 4, 1) = 2", "put(1, 4, 2) = ILLEGAL_STATE");
        // both have to be put
        s.run("addWord(5, 0, 9, 0, 0)", "addWord(5, 0, 9, 0, 0)", "meeting(0, 1) = NONE",
                "put(0, 4, 10)", "meeting(0, 1) = NONE", "count(4) = 0");
        // a shot takes the first one away in the very frame in which the other one comes
        s.run("addWord(5, 0, 9, 0, 0)", "addWord(5, 4, 9, 0, 0)", "put(0, 4, 10)", "addShot(5)",
                "put(1, 4, 10) = ILLEGAL_STATE", "addShot(4)", "put(1, 4, 10) = 2");
    }

    // ---- Putting all words

    private void nonePut() {
        s.of("Putting all words", "To put all words means: first, none is put.");
        s.run("addWord(4, 0, 9, 0, 0)", "put(0, 7, 0)", "putAll() = 1", "word(0, 4) = 3",
                "word(0, 5) = 18");
        s.run("addWord(4, 0, 9, 0, 0)", "addWord(4, 1, 9, 0, 0)", "put(1, 3, 18)", "put(0, 0, 0)",
                "putAll() = 2", "word(0, 4) = 3", "word(0, 5) = 18", "word(1, 5) = 14");
        s.run("addWord(4, 1, 9, 0, 0)", "addWord(4, 0, 9, 0, 0)", "put(0, 3, 18)", "put(1, 0, 0)",
                "putAll() = 2", "word(1, 4) = 3", "word(1, 5) = 18", "word(0, 5) = 14");
        // the last of twelve, too: it comes last, and stood where each of them would be put
        List<String> rows = new ArrayList<>();
        rows.add("11 x addWord(4, 0, 9, 0, 0)");
        rows.add("addWord(4, 1, 9, 0, 0)");
        rows.add("put(11, 3, 18)");
        rows.add("putAll() = 12");
        rows.add("word(0, 5) = 18");
        rows.add("word(11, 4) = 4");
        s.run(rows);
        s.run("putAll() = 0", "count(5) = 1");
    }

    private void orderOfWords() {
        s.of("Putting all words", "Then the words are gone through by ascending first frames, of "
                + "several with the same one first the one with the most letters, then by ascending "
                + "numbers; each is put at the first place, of those that are possible for its "
                + "length, at which it meets none of the words that were put already, in any frame.");
        s.run("addWord(4, 2, 9, 0, 0)", "addWord(4, 1, 9, 0, 0)", "addWord(4, 0, 9, 0, 0)",
                "putAll() = 3", "word(2, 5) = 18", "word(1, 5) = 14", "word(0, 5) = 22");
        s.run("addWord(2, 5, 9, 0, 0)", "addWord(3, 5, 9, 0, 0)", "addWord(4, 5, 9, 0, 0)",
                "putAll() = 3", "word(2, 5) = 18", "word(1, 5) = 15", "word(0, 5) = 22");
        s.run("addWord(4, 5, 9, 0, 0)", "addWord(4, 5, 9, 0, 0)", "addWord(4, 5, 9, 0, 0)",
                "putAll() = 3", "word(0, 5) = 18", "word(1, 5) = 14", "word(2, 5) = 22");
        // the frame goes before the letters
        s.run("addWord(12, 5, 9, 0, 0)", "addWord(1, 4, 9, 0, 0)", "putAll() = 2",
                "word(1, 5) = 19", "word(0, 5) = 20");
        s.run("addWord(2, 5, 10, 0, 0)", "addWord(2, 4, 10, 0, 0)", "addWord(3, 5, 10, 0, 0)",
                "addWord(2, 5, 10, 0, 0)", "addWord(3, 5, 10, 0, 0)", "putAll() = 5",
                "word(1, 5) = 19", "word(2, 5) = 16", "word(4, 5) = 21", "word(0, 5) = 14",
                "word(3, 5) = 24");
        // in any frame: the first word passes the nearer place only if it leaves to the left
        for (int way = 0; way <= 4; way++) {
            s.run("addWord(12, 0, 20, 0, " + way + ")", "addWord(1, 5, 60, 0, 0)", "putAll() = 2",
                    "word(0, 5) = 14", "word(1, 4) = 3", "word(1, 5) = " + (way == 1 ? 26 : 13));
        }
        // a word that comes when the other one has just gone takes its place
        s.run("addWord(12, 0, 20, 0, 0)", "addWord(12, 20, 60, 0, 0)", "putAll() = 2",
                "word(1, 5) = 14");
        s.run("addWord(12, 0, 20, 0, 0)", "addWord(12, 19, 60, 0, 0)", "putAll() = 2",
                "word(1, 5) = 2");
        // possible for its length: the last column of 11 letters is 29, then the next lane comes
        s.run("addWord(12, 0, 60, 60, 0)", "addWord(3, 1, 60, 60, 0)", "addWord(3, 1, 60, 60, 0)",
                "addWord(3, 1, 60, 60, 0)", "addWord(11, 2, 60, 60, 0)", "addWord(8, 3, 60, 60, 0)",
                "addWord(1, 4, 60, 60, 0)", "putAll() = 7", "word(1, 5) = 11", "word(2, 5) = 26",
                "word(3, 5) = 8", "word(4, 4) = 3", "word(4, 5) = 29", "word(5, 4) = 3",
                "word(5, 5) = 0", "word(6, 4) = 4", "word(6, 5) = 19");
        s.run("addWord(12, 0, 60, 60, 0)", "addWord(4, 1, 60, 60, 0)", "addWord(4, 2, 60, 60, 0)",
                "addWord(11, 3, 60, 60, 0)", "addWord(10, 4, 60, 60, 0)",
                "addWord(10, 5, 60, 60, 0)", "putAll() = 6", "word(1, 5) = 10", "word(2, 5) = 26",
                "word(3, 4) = 4", "word(3, 5) = 14", "word(4, 4) = 3", "word(4, 5) = 0",
                "word(5, 4) = 3", "word(5, 5) = 30");
        // 11 free columns at both ends of a lane are no place for 12 letters
        s.run("addWord(12, 0, 60, 60, 0)", "addWord(3, 1, 60, 60, 0)", "addWord(3, 1, 60, 60, 0)",
                "addWord(12, 2, 60, 60, 0)", "addWord(11, 3, 60, 60, 0)",
                "addWord(11, 3, 60, 60, 0)", "putAll() = 6", "word(1, 5) = 11", "word(2, 5) = 26",
                "word(3, 4) = 4", "word(3, 5) = 14", "word(4, 4) = 3", "word(4, 5) = 0",
                "word(5, 4) = 3", "word(5, 5) = 29");
    }

    private void orderOfPlaces() {
        s.of("Putting all words", "The places are tried lane by lane, in the order 3, 4, 2, 5, 1, "
                + "6, 0, 7; in a lane by the distance of the column from (40 - L) / 2 (rounded "
                + "down), of two with the same distance the smaller column first.");
        int[] middles = {19, 19, 18, 18, 17, 17, 16, 16, 15, 15, 14, 14};
        for (int letters = 1; letters <= 12; letters++) {
            s.run("addWord(" + letters + ", 0, 1, 0, 0)", "putAll() = 1", "word(0, 4) = 3",
                    "word(0, 5) = " + middles[letters - 1]);
        }
        columns(1, 19, 18, 20, 17, 21, 16, 22, 15, 23, 14, 24, 13);
        columns(2, 19, 17, 21, 15, 23, 13, 25, 11, 27, 9, 29, 7);
        columns(3, 18, 15, 21, 12, 24, 9, 27, 6, 30, 3, 33, 0);
        // the first and the last column of a lane, the farthest from its middle
        s.run("addWord(12, 0, 60, 0, 0)", "addWord(12, 0, 60, 0, 0)", "addWord(12, 0, 60, 0, 0)",
                "addWord(1, 0, 60, 0, 0)", "addWord(1, 0, 60, 0, 0)", "addWord(1, 0, 60, 0, 0)",
                "addWord(1, 0, 60, 0, 0)", "addWord(1, 0, 60, 0, 0)", "putAll() = 8",
                "word(0, 5) = 14", "word(1, 5) = 2", "word(2, 5) = 26", "word(3, 5) = 1",
                "word(4, 5) = 0", "word(5, 5) = 38", "word(6, 5) = 39", "word(6, 4) = 3",
                "word(7, 4) = 4", "word(7, 5) = 19");
        // three words in lane 3 go up, three in lane 4 go down: they bar a lane more each frame
        lanes(10, 2, 5);
        lanes(11, 1, 6);
        lanes(12, 0, 7);
    }

    private void columns(int letters, int... columns) {
        List<String> rows = new ArrayList<>();
        rows.add("12 x addWord(" + letters + ", 7, 10, 0, 0)");
        rows.add("putAll() = 12");
        for (int k = 0; k < 12; k++) {
            rows.add("word(" + k + ", 4) = 3");
            rows.add("word(" + k + ", 5) = " + columns[k]);
        }
        s.run(rows);
    }

    /** Six words of so many frames, of which three fill a lane, when the screen is barred. */
    private void lanes(int frames, int first, int second) {
        List<String> rows = barred();
        rows.add("6 x addWord(12, 0, " + frames + ", 0, 0)");
        rows.add("putAll() = 12");
        int[] lanes = {3, 4, first, second};
        int[] columns = {14, 2, 26};
        for (int k = 0; k < 12; k++) {
            rows.add("word(" + k + ", 4) = " + lanes[k / 3]);
            rows.add("word(" + k + ", 5) = " + columns[k % 3]);
        }
        s.run(rows);
    }

    private static List<String> barred() {
        List<String> rows = new ArrayList<>();
        rows.add("3 x addWord(12, 0, 10, 0, 3)");
        rows.add("3 x addWord(12, 0, 10, 0, 4)");
        return rows;
    }

    private void withoutPlace() {
        s.of("Putting all words", "A word without such a place is not put.");
        // all lanes are barred by the frame 12, so 12 letters that stay longer have no place
        s.run(Sentences.behind(barred(), "addWord(12, 0, 13, 0, 0)", "put(6, 0, 0) = 1",
                "putAll() = 6", "word(6, 4) = NONE", "word(6, 5) = NONE", "word(6, 6) = NONE",
                "onScreen(0) = 63", "count(1) = 6", "undo()", "word(6, 4) = 0"));
        s.run(Sentences.behind(barred(), "addWord(12, 0, 13, 0, 0)", "addWord(1, 0, 13, 0, 0)",
                "putAll() = 7", "word(6, 4) = NONE", "word(7, 4) = 3", "word(7, 5) = 1"));
        s.run(Sentences.behind(barred(), "addWord(12, 0, 12, 0, 0)", "putAll() = 7",
                "word(6, 4) = 0"));
    }
}
