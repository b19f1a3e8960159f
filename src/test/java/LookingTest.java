/** Promises 15 to 22: count, word, letter, shot, where, written, onScreen, meeting. */
final class LookingTest {
    private static final int MIN = Integer.MIN_VALUE;
    private static final int MAX = Integer.MAX_VALUE;

    public static void main(String[] args) {
        Check check = new Check("LookingTest");
        count(check);
        word(check);
        lastFrames(check);
        floatSpeed(check);
        letterAndShot(check);
        where(check);
        whereErrors(check);
        written(check);
        onScreen(check);
        meeting(check);
        meetingOffScreen(check);
        meetingOnTheWay(check);
        check.finish();
    }

    private static void count(Check check) {
        VoiceWords x = new VoiceWords();
        x.addWord(5, 0, 10, 0, 0);
        x.addWord(5, 5, 10, 0, 0);
        x.addWord(5, 12, 10, 0, 0);
        x.addShot(5);
        x.put(0, 3, 3);
        x.put(1, 3, 3);
        x.append('a');
        int[] due = {3, 2, 1, 100, 0, 5, 1};
        for (int what = 0; what < due.length; what++) {
            check.due("count(" + what + ")", x.count(what), due[what]);
        }
        x.addShot(13);
        x.put(2, 3, 3);
        x.take(2);
        x.addShot(12);
        check.due("put when the shot has cleared the screen", x.put(2, 3, 3), 3);
        check.due("count(4)", x.count(4), 0);
        x.removeShot(12);
        check.due("count(4): words that a shot parted meet", x.count(4), 1);
        x.removeShot(5);
        check.due("count(4)", x.count(4), 2);
        check.due("count(1): they stay", x.count(1), 3);
        int[] wrong = {-1, 7, MIN, MAX};
        for (int what : wrong) {
            check.due("count(" + what + ")", x.count(what), -11);
        }
    }

    private static void word(Check check) {
        VoiceWords x = new VoiceWords();
        check.due("word(0, 0) of none", x.word(0, 0), -11);
        x.addWord(5, 11, 12, 13, 0);
        int[] due = {11, 12, 13, 0, -19, -19, -19, 5};
        int[] duePut = {11, 12, 13, 0, 6, 7, 35, 5};
        for (int what = 0; what < due.length; what++) {
            check.due("word(0, " + what + ")", x.word(0, what), due[what]);
        }
        x.put(0, 6, 7);
        for (int what = 0; what < due.length; what++) {
            check.due("word(0, " + what + ") when put", x.word(0, what), duePut[what]);
        }
        int[][] wrong = {{-1, 0}, {1, 0}, {0, -1}, {0, 8}, {MIN, 0}, {MAX, 0}, {0, MIN}, {0, MAX},
            {1, 4}};
        for (int[] a : wrong) {
            check.due("word " + java.util.Arrays.toString(a), x.word(a[0], a[1]), -11);
        }
    }

    /** The last frame on the screen: way, speed and place on one side, shots on the other. */
    private static void lastFrames(Check check) {
        // way, percent, length, lane, column, last frame of a word with a = 10 and b = 15
        int[][] rows = {
            {0, 100, 3, 2, 5, 14}, {0, 400, 3, 2, 5, 14},
            {1, 100, 3, 2, 0, 16}, {1, 100, 3, 2, 5, 21}, {1, 400, 3, 2, 5, 15},
            {1, 200, 3, 2, 5, 17}, {1, 50, 3, 2, 5, 29},
            {2, 100, 3, 2, 37, 16}, {2, 100, 3, 2, 36, 17}, {2, 50, 12, 0, 0, 93},
            {2, 400, 12, 0, 0, 23}, {1, 50, 12, 0, 28, 93},
            {3, 100, 3, 0, 5, 14}, {3, 100, 3, 7, 5, 21}, {3, 50, 3, 0, 5, 15},
            {3, 400, 3, 7, 5, 15}, {3, 50, 3, 7, 5, 29},
            {4, 100, 3, 7, 5, 14}, {4, 100, 3, 0, 5, 21}, {4, 400, 3, 0, 5, 15},
            {4, 50, 3, 7, 5, 15}};
        for (int[] r : rows) {
            VoiceWords x = new VoiceWords();
            x.addWord(r[2], 10, 3, 2, r[0]);
            x.setSpeed(r[1]);
            x.put(0, r[3], r[4]);
            String of = java.util.Arrays.toString(r);
            check.due("last frame of " + of, x.word(0, 6), r[5]);
            check.due("on the screen in it " + of, x.onScreen(r[5]), 1);
            check.due("gone then " + of, x.onScreen(r[5] + 1), 0);
            check.due("first frame " + of, x.onScreen(10), 1);
            check.due("before it " + of, x.onScreen(9), 0);
        }
        VoiceWords x = new VoiceWords();
        x.addWord(3, 10, 3, 2, 1);
        x.put(0, 2, 5);
        // shots that are added one after the other, and the last frame then
        int[][] shots = {{9, 21}, {10, 21}, {22, 21}, {21, 20}, {30, 20}, {15, 14}, {12, 11},
            {11, 10}, {1, 10}};
        for (int[] s : shots) {
            x.addShot(s[0]);
            check.due("last frame with a shot in " + s[0], x.word(0, 6), s[1]);
        }
    }

    /** The way is the product in float, cut: not in double, and not summed up. */
    private static void floatSpeed(Check check) {
        for (int percent = 50; percent <= 400; percent++) {
            VoiceWords x = new VoiceWords();
            x.setSpeed(percent);
            x.addWord(12, 0, 1, 0, 1);
            x.put(0, 0, 28);
            float v = (float) percent / 100.0f;
            int i = 1;
            for (; (int) ((float) i * v) < 40; i++) {
                int column = 28 - (int) ((float) i * v);
                check.due(percent + " percent: where(0, " + i + ", 1)", x.where(0, i, 1),
                        column < 0 ? column - 1000 : column);
            }
            check.due(percent + " percent: gone", x.where(0, i, 1), -19);
            check.due(percent + " percent: last", x.word(0, 6), i - 1);
        }
        // 0.7f is less than 0.7, yet ten times 0.7f is 7.0f in float, though not in double
        VoiceWords x = new VoiceWords();
        x.setSpeed(70);
        x.addWord(1, 0, 1, 0, 2);
        x.put(0, 0, 0);
        check.due("ten steps at 70 percent", x.where(0, 10, 1), 7);
    }

    private static void letterAndShot(Check check) {
        VoiceWords x = new VoiceWords();
        check.due("letter(0, 0) of none", x.letter(0, 0), -11);
        x.addWord(3, 0, 1, 0, 0);
        check.due("letter(0, 0)", x.letter(0, 0), 'a');
        check.due("letter(0, 2)", x.letter(0, 2), 'c');
        check.due("letter(0, 3)", x.letter(0, 3), -19);
        check.due("letter(0, 12)", x.letter(0, 12), -19);
        check.due("letter(0, MAX)", x.letter(0, MAX), -19);
        check.due("letter(0, -1)", x.letter(0, -1), -11);
        check.due("letter(0, MIN)", x.letter(0, MIN), -11);
        check.due("letter(1, 0)", x.letter(1, 0), -11);
        check.due("letter(-1, 0)", x.letter(-1, 0), -11);
        check.due("letter(1, 99)", x.letter(1, 99), -11);
        x.removeWord(0);
        x.addWord(1, 0, 1, 0, 0);
        check.due("letter(0, 1) of a shorter word", x.letter(0, 1), -19);
        check.due("shot(0) of none", x.shot(0), -19);
        x.addShot(30);
        x.addShot(20);
        check.due("shot(0)", x.shot(0), 20);
        check.due("shot(1)", x.shot(1), 30);
        check.due("shot(2)", x.shot(2), -19);
        check.due("shot(MAX)", x.shot(MAX), -19);
        check.due("shot(-1)", x.shot(-1), -11);
        check.due("shot(MIN)", x.shot(MIN), -11);
        x.removeShot(30);
        check.due("shot(1) after a removal", x.shot(1), -19);
    }

    private static void where(Check check) {
        // way, then row and column of a word of 3 letters in lane 2, column 1, three frames on
        int[][] rows = {{0, -19, -19}, {1, 2, -1002}, {2, 2, 4}, {3, -19, -19}, {4, 5, 1}};
        for (int[] r : rows) {
            VoiceWords x = new VoiceWords();
            x.addWord(3, 10, 4, 1, r[0]);
            check.due("where of a word that is not put", x.where(0, 10, 0), -19);
            x.put(0, 2, 1);
            check.due("way " + r[0] + ": row before", x.where(0, 9, 0), -19);
            check.due("way " + r[0] + ": row at first", x.where(0, 10, 0), 2);
            check.due("way " + r[0] + ": column at first", x.where(0, 10, 1), 1);
            check.due("way " + r[0] + ": row at last", x.where(0, 14, 0), 2);
            check.due("way " + r[0] + ": column at last", x.where(0, 14, 1), 1);
            check.due("way " + r[0] + ": row then", x.where(0, 17, 0), r[1]);
            check.due("way " + r[0] + ": column then", x.where(0, 17, 1), r[2]);
            check.due("way " + r[0] + ": at the end", x.where(0, 4000, 0), -19);
        }
        VoiceWords x = new VoiceWords();
        x.addWord(3, 0, 1, 0, 1);
        x.put(0, 0, 0);
        check.due("column 0", x.where(0, 0, 1), 0);
        check.due("column -1", x.where(0, 1, 1), -1001);
        check.due("column -2", x.where(0, 2, 1), -1002);
        check.due("column -3: gone", x.where(0, 3, 1), -19);
        x.setWord(0, 3, 2);
        x.put(0, 0, 37);
        check.due("column 39", x.where(0, 2, 1), 39);
        check.due("column 40: gone", x.where(0, 3, 1), -19);
        x.addShot(2);
        check.due("a shot", x.where(0, 2, 1), -19);
        check.due("before the shot", x.where(0, 1, 1), 38);
    }

    private static void whereErrors(Check check) {
        VoiceWords x = new VoiceWords();
        check.due("where of none", x.where(0, 0, 0), -11);
        x.addWord(3, 0, 1, 0, 1);
        int[][] wrong = {{-1, 0, 0}, {1, 0, 0}, {0, -1, 0}, {0, 4001, 0}, {0, 0, -1}, {0, 0, 2},
            {MIN, 0, 0}, {MAX, 0, 0}, {0, MIN, 0}, {0, MAX, 0}, {0, 0, MIN}, {0, 0, MAX}};
        for (int[] a : wrong) {
            check.due("where " + java.util.Arrays.toString(a), x.where(a[0], a[1], a[2]), -11);
        }
        check.due("where(0, 4000, 1)", x.where(0, 4000, 1), -19);
        int[][] wrongCells = {{-1, 0, 0}, {8, 0, 0}, {0, -1, 0}, {0, 40, 0}, {0, 0, -1},
            {0, 0, 4001}, {MIN, 0, 0}, {MAX, 0, 0}, {0, MIN, 0}, {0, MAX, 0}, {0, 0, MIN},
            {0, 0, MAX}};
        for (int[] a : wrongCells) {
            check.due("written " + java.util.Arrays.toString(a),
                    x.written(a[0], a[1], a[2]), -11);
        }
        check.due("written(7, 39, 4000)", x.written(7, 39, 4000), -19);
        int[] wrongFrames = {-1, 4001, MIN, MAX};
        for (int frame : wrongFrames) {
            check.due("onScreen(" + frame + ")", x.onScreen(frame), -11);
        }
        check.due("onScreen(4000)", x.onScreen(4000), 0);
    }

    private static void written(Check check) {
        VoiceWords x = new VoiceWords();
        Check.load(x, "say xyz 5 5 0 left;say pq 5 5 0;cut 7;");
        check.due("not put", x.written(2, 1, 5), -19);
        x.put(0, 2, 1);
        String[] rows = {"-xyz-", "-----", "-----", "-xyz-"};
        int[] frames = {5, 4, 7, 6};
        for (int i = 0; i < rows.length; i++) {
            row(check, x, 2, frames[i], rows[i]);
        }
        x.removeShot(7);
        row(check, x, 2, 9, "-xyz-");
        row(check, x, 2, 10, "xyz--");
        row(check, x, 2, 11, "yz---");
        row(check, x, 2, 12, "z----");
        row(check, x, 2, 13, "-----");
        row(check, x, 3, 5, "-----");
        // words that meet: the shot that parted them is taken away
        VoiceWords y = new VoiceWords();
        Check.load(y, "say pqr 7 5 0;say xyz 5 5 0;cut 7;");
        y.put(1, 0, 0);
        check.due("put", y.put(0, 0, 1), 2);
        y.removeShot(7);
        row(check, y, 0, 6, "xyz--");
        row(check, y, 0, 7, "xpqr-");
        row(check, y, 0, 10, "-pqr-");
        check.due("filled(7)", y.filled(7), 4);
    }

    /** The first cells of a row; a "-" is one without a letter. */
    private static void row(Check check, VoiceWords x, int row, int frame, String signs) {
        for (int column = 0; column < signs.length(); column++) {
            char sign = signs.charAt(column);
            check.due("written(" + row + ", " + column + ", " + frame + ")",
                    x.written(row, column, frame), sign == '-' ? -19 : sign);
        }
    }

    private static void onScreen(Check check) {
        VoiceWords x = new VoiceWords();
        for (int k = 0; k < 12; k++) {
            x.addWord(1, k, 12 - k, 0, 0);
        }
        check.due("onScreen(11) when none is put", x.onScreen(11), 0);
        for (int k = 0; k < 12; k++) {
            x.put(k, 0, 3 * k);
        }
        for (int frame = 0; frame < 12; frame++) {
            check.due("onScreen(" + frame + ")", x.onScreen(frame), (1 << (frame + 1)) - 1);
        }
        check.due("onScreen(12)", x.onScreen(12), 0);
        x.take(3);
        check.due("onScreen(11) without one", x.onScreen(11), 4095 - 8);
    }

    private static void meeting(Check check) {
        VoiceWords x = new VoiceWords();
        check.due("meeting(0, 1) of none", x.meeting(0, 1), -11);
        x.addWord(3, 0, 10, 0, 2);
        x.addWord(3, 4, 20, 0, 0);
        x.setSpeed(50);
        x.put(0, 3, 0);
        check.due("meeting with one that is not put", x.meeting(0, 1), -19);
        x.addShot(12);
        x.put(1, 3, 4);
        check.due("meeting: a shot comes between", x.meeting(0, 1), -19);
        x.removeShot(12);
        // after 2 frames one cell, after 4 two: the letters 2..4 reach column 4
        check.due("meeting(0, 1)", x.meeting(0, 1), 13);
        check.due("meeting(1, 0)", x.meeting(1, 0), 13);
        check.due("meeting(0, 0)", x.meeting(0, 0), -11);
        int[][] wrong = {{-1, 0}, {0, -1}, {2, 0}, {0, 2}, {MIN, 0}, {0, MIN}, {MAX, 0}, {0, MAX}};
        for (int[] a : wrong) {
            check.due("meeting " + java.util.Arrays.toString(a), x.meeting(a[0], a[1]), -11);
        }
        x.take(1);
        x.take(0);
        check.due("meeting of two that are not put", x.meeting(0, 1), -19);
        check.due("meeting(1, 1)", x.meeting(1, 1), -11);
        // standing words meet in the later first frame
        VoiceWords y = new VoiceWords();
        y.addWord(3, 0, 10, 0, 0);
        y.addWord(3, 6, 10, 0, 0);
        y.addShot(6);
        y.put(0, 1, 1);
        y.put(1, 1, 3);
        y.removeShot(6);
        check.due("meeting of standing words", y.meeting(0, 1), 6);
        check.due("count(4)", y.count(4), 1);
    }

    /** Cells off the screen are none: words that overlap only there do not meet. */
    private static void meetingOffScreen(Check check) {
        // "abcdef" stands alone at first; both have left by the time that they overlap
        VoiceWords x = new VoiceWords();
        x.addWord(3, 0, 1, 0, 1);
        x.addWord(6, 1, 1, 0, 1);
        x.setSpeed(200);
        x.put(0, 0, 0);
        check.due("put behind one that leaves", x.put(1, 0, 1), 2);
        check.due("where(0, 1, 1)", x.where(0, 1, 1), -1002);
        check.due("meeting(0, 1)", x.meeting(0, 1), -19);
        VoiceWords y = new VoiceWords();
        y.addWord(3, 0, 1, 0, 2);
        y.addWord(12, 0, 2, 0, 2);
        y.setSpeed(400);
        y.put(1, 0, 28);
        check.due("put that reaches the other one", y.put(0, 0, 25), -12);
        check.due("put that stays before it", y.put(0, 0, 21), 2);
        check.due("where(1, 2, 1)", y.where(1, 2, 1), 32);
        check.due("meeting(0, 1)", y.meeting(0, 1), -19);
    }

    /** Two words: first frame, spoken frames, way, lane, column; and the frame in which they meet. */
    private static void meetingOnTheWay(Check check) {
        int[][][] rows = {
            {{0, 1, 2, 3, 0}, {0, 20, 0, 3, 3}, {1}},
            {{0, 20, 0, 3, 3}, {0, 1, 2, 3, 0}, {1}},
            {{0, 1, 2, 3, 0}, {0, 20, 0, 3, 4}, {2}},
            {{0, 5, 1, 3, 1}, {7, 20, 0, 3, 0}, {7}},
            {{0, 5, 1, 3, 1}, {8, 20, 0, 3, 0}, {-19}},
            {{0, 5, 2, 3, 36}, {7, 20, 0, 3, 37}, {7}},
            {{0, 5, 2, 3, 36}, {8, 20, 0, 3, 37}, {-19}},
            {{0, 1, 3, 7, 5}, {0, 20, 3, 2, 7}, {5}},
            {{0, 20, 3, 2, 7}, {0, 1, 3, 7, 5}, {5}},
            {{0, 1, 4, 0, 5}, {0, 20, 4, 6, 3}, {6}},
            {{0, 20, 4, 6, 3}, {0, 1, 4, 0, 5}, {6}},
            {{0, 1, 4, 0, 5}, {0, 1, 3, 6, 5}, {3}},
            {{0, 1, 4, 0, 5}, {0, 1, 3, 7, 5}, {-19}},
            {{0, 1, 4, 0, 5}, {0, 1, 2, 4, 0}, {4}},
            {{0, 1, 2, 4, 0}, {0, 1, 1, 4, 20}, {9}},
            {{0, 1, 3, 4, 8}, {0, 20, 0, 3, 11}, {-19}},
            {{0, 1, 0, 4, 8}, {1, 20, 0, 4, 8}, {-19}},
            {{3, 20, 0, 0, 0}, {9, 20, 0, 0, 2}, {9}}};
        for (int[][] r : rows) {
            String of = java.util.Arrays.deepToString(r);
            VoiceWords x = new VoiceWords();
            // A shot right behind each first frame parts the words while they are put.
            for (int k = 0; k < 2; k++) {
                x.addWord(3, r[k][0], r[k][1], 0, r[k][2]);
                x.addShot(r[k][0] + 1);
            }
            x.put(0, r[0][3], r[0][4]);
            check.due("put of " + of, x.put(1, r[1][3], r[1][4]), 2);
            for (int k = 0; k < 2; k++) {
                x.removeShot(r[k][0] + 1);
            }
            check.due("meeting of " + of, x.meeting(0, 1), r[2][0]);
            check.due("meeting the other way round of " + of, x.meeting(1, 0), r[2][0]);
            check.due("count(4) of " + of, x.count(4), r[2][0] == -19 ? 0 : 1);
        }
    }
}
