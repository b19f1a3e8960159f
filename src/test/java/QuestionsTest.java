/** Promises 23 to 25: pace, earliest, filled. */
final class QuestionsTest {
    private static final int MIN = Integer.MIN_VALUE;
    private static final int MAX = Integer.MAX_VALUE;

    public static void main(String[] args) {
        Check check = new Check("QuestionsTest");
        pace(check);
        paceInFloat(check);
        earliest(check);
        earliestErrors(check);
        earliestBeyondTheRange(check);
        earliestAndShots(check);
        filled(check);
        changeNothing(check);
        check.finish();
    }

    private static void pace(Check check) {
        VoiceWords x = new VoiceWords();
        check.due("pace(0) without words", x.pace(0), 0);
        x.addWord(5, 10, 10, 20, 1);
        x.addWord(3, 15, 7, 0, 0);
        x.addShot(12);
        int[][] due = {{9, 0}, {10, 12}, {14, 12}, {15, 23}, {19, 23}, {20, 10}, {21, 10}, {22, 0},
            {4000, 0}};
        for (int[] d : due) {
            check.due("pace(" + d[0] + ")", x.pace(d[0]), d[1]);
        }
        x.put(0, 0, 0);
        check.due("pace(15) when one is put", x.pace(15), 23);
        int[] wrong = {-1, 4001, MIN, MAX};
        for (int frame : wrong) {
            check.due("pace(" + frame + ")", x.pace(frame), -11);
        }
        VoiceWords y = new VoiceWords();
        for (int k = 0; k < 12; k++) {
            y.addWord(12, 2000, 1, 0, 0);
        }
        check.due("pace(2000) at most", y.pace(2000), 3600);
        check.due("pace(2001)", y.pace(2001), 0);
    }

    /** Sums for which double, anywhere in them, another order, or 25.0f times each summand would answer otherwise. */
    private static void paceInFloat(Check check) {
        int[][][] rows = {
            {{9, 7, 4}, {5, 21, 60}, {54}}, {{7, 9, 9, 2}, {22, 12, 60, 11}, {34}},
            {{11, 9}, {50, 2}, {117}}, {{3, 4, 7}, {9, 60, 5}, {45}},
            {{9, 4, 9}, {5, 25, 25}, {58}}, {{7, 4}, {5, 10}, {45}}, {{8, 6}, {1, 15}, {209}},
            {{9, 9, 10}, {60, 60, 20}, {20}}, {{7, 12, 12}, {35, 20, 3}, {120}},
            {{11, 6, 5}, {30, 9, 30}, {29}}, {{5, 4, 9}, {2, 40, 15}, {79}},
            {{3, 1, 9}, {15, 4, 60}, {15}}, {{4, 7}, {60, 3}, {59}}, {{3, 6, 3}, {4, 40, 10}, {30}},
            {{7, 2, 7}, {40, 6, 24}, {19}}};
        for (int[][] r : rows) {
            VoiceWords x = new VoiceWords();
            for (int k = 0; k < r[0].length; k++) {
                x.addWord(r[0][k], 3, r[1][k], 0, 0);
            }
            check.due("pace of " + java.util.Arrays.deepToString(r), x.pace(3), r[2][0]);
        }
    }

    private static void earliest(Check check) {
        VoiceWords x = new VoiceWords();
        x.addWord(5, 10, 10, 0, 0);
        x.addWord(3, 4, 3, 2, 0);
        check.due("earliest(1, 3, 3) alone", x.earliest(1, 3, 3), 4);
        x.put(0, 3, 0);
        check.due("earliest(1, 3, 3) before the other comes", x.earliest(1, 3, 3), 4);
        x.setWord(1, 0, 5);
        check.due("it may still go before it", x.earliest(1, 3, 3), 5);
        x.setWord(1, 0, 6);
        check.due("it has to wait", x.earliest(1, 3, 3), 20);
        check.due("another column", x.earliest(1, 3, 5), 6);
        check.due("another lane", x.earliest(1, 2, 3), 6);
        x.put(1, 7, 30);
        check.due("when it is put itself", x.earliest(1, 7, 30), 6);
        check.due("when it is put itself", x.earliest(1, 3, 3), 20);
        check.due("it stays where it is", x.word(1, 4), 7);
        x.setWord(0, 3, 1);
        x.put(0, 3, 0);
        check.due("behind a word that leaves to the left", x.earliest(1, 3, 2), 22);
    }

    private static void earliestErrors(Check check) {
        VoiceWords x = new VoiceWords();
        check.due("earliest of none", x.earliest(0, 0, 0), -11);
        x.addWord(5, 10, 10, 0, 0);
        x.addWord(3, 4, 3, 2, 0);
        check.due("earliest(0, 7, 35)", x.earliest(0, 7, 35), 10);
        int[][] wrong = {{-1, 0, 0}, {2, 0, 0}, {0, -1, 0}, {0, 8, 0}, {0, 0, -1}, {0, 0, 36},
            {1, 0, 38}, {MIN, 0, 0}, {MAX, 0, 0}, {0, MIN, 0}, {0, MAX, 0}, {0, 0, MIN},
            {0, 0, MAX}};
        for (int[] a : wrong) {
            check.due("earliest " + java.util.Arrays.toString(a),
                    x.earliest(a[0], a[1], a[2]), -11);
        }
    }

    private static void earliestBeyondTheRange(Check check) {
        VoiceWords x = new VoiceWords();
        x.addWord(5, 1990, 10, 0, 0);
        x.addWord(5, 1985, 10, 0, 0);
        x.put(0, 0, 0);
        check.due("earliest in the last frame", x.earliest(1, 0, 0), 2000);
        x.setWord(0, 1, 11);
        x.put(0, 0, 0);
        check.due("earliest would be 2001", x.earliest(1, 0, 0), -19);
        x.setWord(1, 0, 2000);
        check.due("earliest(1, 0, 0) in frame 2000", x.earliest(1, 0, 0), -19);
        check.due("earliest(1, 1, 0) in frame 2000", x.earliest(1, 1, 0), 2000);
    }

    private static void earliestAndShots(Check check) {
        VoiceWords x = new VoiceWords();
        x.addWord(5, 10, 10, 0, 0);
        x.addWord(5, 3, 60, 0, 0);
        x.put(0, 0, 0);
        check.due("earliest(1, 0, 0)", x.earliest(1, 0, 0), 20);
        x.addShot(14);
        check.due("a shot clears the other one", x.earliest(1, 0, 0), 14);
        x.addShot(10);
        check.due("a shot clears this one in time", x.earliest(1, 0, 0), 3);
        x.removeShot(10);
        x.addShot(11);
        check.due("it comes in the frame of a shot", x.earliest(1, 0, 0), 11);
        x.addShot(8);
        check.due("before a shot", x.earliest(1, 0, 0), 3);
        x.setWord(1, 0, 8);
        check.due("in the frame of a shot it stays", x.earliest(1, 0, 0), 11);
    }

    private static void filled(Check check) {
        VoiceWords x = new VoiceWords();
        x.addWord(5, 5, 5, 0, 1);
        check.due("filled(5) when it is not put", x.filled(5), 0);
        x.put(0, 0, 2);
        int[] due = {0, 5, 5, 5, 5, 5, 5, 5, 4, 3, 2, 1, 0};
        for (int i = 0; i < due.length; i++) {
            check.due("filled(" + (4 + i) + ")", x.filled(4 + i), due[i]);
        }
        x.addWord(12, 5, 5, 0, 2);
        check.due("put", x.put(1, 7, 28), 2);
        check.due("filled(9)", x.filled(9), 17);
        check.due("filled(11)", x.filled(11), 15);
        check.due("filled(12)", x.filled(12), 13);
        x.addShot(9);
        check.due("filled(9) with a shot", x.filled(9), 0);
        check.due("filled(8)", x.filled(8), 17);
        check.due("filled(4000)", x.filled(4000), 0);
        int[] wrong = {-1, 4001, MIN, MAX};
        for (int frame : wrong) {
            check.due("filled(" + frame + ")", x.filled(frame), -11);
        }
    }

    private static void changeNothing(Check check) {
        VoiceWords x = new VoiceWords();
        x.addWord(5, 10, 10, 0, 0);
        x.put(0, 4, 5);
        x.pace(10);
        x.earliest(0, 1, 1);
        x.filled(10);
        check.due("count(5)", x.count(5), 2);
        check.due("word(0, 0)", x.word(0, 0), 10);
        check.due("word(0, 4)", x.word(0, 4), 4);
        check.due("word(0, 5)", x.word(0, 5), 5);
    }
}
