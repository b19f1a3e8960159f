/** Promises 2 to 7: addWord, removeWord, setWord, addShot, removeShot, setSpeed. */
final class WordsAndShotsTest {
    private static final int MIN = Integer.MIN_VALUE;
    private static final int MAX = Integer.MAX_VALUE;

    public static void main(String[] args) {
        Check check = new Check("WordsAndShotsTest");
        addWord(check);
        addWordErrors(check);
        removeWord(check);
        setWord(check);
        setWordErrors(check);
        addShot(check);
        removeShot(check);
        setSpeed(check);
        check.finish();
    }

    private static void addWord(Check check) {
        VoiceWords x = new VoiceWords();
        check.due("addWord smallest", x.addWord(1, 0, 1, 0, 0), 0);
        check.due("addWord greatest", x.addWord(12, 2000, 60, 60, 4), 1);
        check.due("count(0)", x.count(0), 2);
        check.due("count(5): an action", x.count(5), 2);
        int[] due = {2000, 60, 60, 4, -19, -19, -19, 12};
        for (int what = 0; what < due.length; what++) {
            check.due("word(1, " + what + ")", x.word(1, what), due[what]);
        }
        for (int i = 0; i < 12; i++) {
            check.due("letter(1, " + i + ")", x.letter(1, i), 'a' + i);
        }
        check.due("letter(0, 0)", x.letter(0, 0), 'a');
        check.due("letter(0, 1)", x.letter(0, 1), -19);
        for (int k = 2; k < 12; k++) {
            check.due("addWord " + k, x.addWord(2, k, 3, 4, 1), k);
        }
        check.due("addWord a 13th", x.addWord(2, 5, 3, 4, 1), -13);
        check.due("addWord a wrong 13th", x.addWord(0, 5, 3, 4, 1), -11);
        check.due("count(0)", x.count(0), 12);
        check.due("count(5)", x.count(5), 5);
    }

    private static void addWordErrors(Check check) {
        VoiceWords x = new VoiceWords();
        int[][] wrong = {
            {0, 0, 1, 0, 0}, {13, 0, 1, 0, 0}, {-1, 0, 1, 0, 0},
            {1, -1, 1, 0, 0}, {1, 2001, 1, 0, 0},
            {1, 0, 0, 0, 0}, {1, 0, 61, 0, 0}, {1, 0, -1, 0, 0},
            {1, 0, 1, -1, 0}, {1, 0, 1, 61, 0},
            {1, 0, 1, 0, -1}, {1, 0, 1, 0, 5},
            {MIN, 0, 1, 0, 0}, {MAX, 0, 1, 0, 0}, {1, MIN, 1, 0, 0}, {1, MAX, 1, 0, 0},
            {1, 0, MIN, 0, 0}, {1, 0, MAX, 0, 0}, {1, 0, 1, MIN, 0}, {1, 0, 1, MAX, 0},
            {1, 0, 1, 0, MIN}, {1, 0, 1, 0, MAX}};
        for (int[] a : wrong) {
            check.due("addWord " + java.util.Arrays.toString(a),
                    x.addWord(a[0], a[1], a[2], a[3], a[4]), -11);
        }
        check.due("count(0)", x.count(0), 0);
        check.due("count(5)", x.count(5), 0);
    }

    private static void removeWord(Check check) {
        VoiceWords x = new VoiceWords();
        check.due("removeWord(0) of none", x.removeWord(0), -11);
        x.addWord(1, 10, 1, 0, 0);
        x.addWord(2, 20, 2, 0, 1);
        x.addWord(3, 30, 3, 0, 2);
        x.put(2, 6, 7);
        check.due("removeWord(-1)", x.removeWord(-1), -11);
        check.due("removeWord(3)", x.removeWord(3), -11);
        check.due("removeWord(MIN)", x.removeWord(MIN), -11);
        check.due("removeWord(MAX)", x.removeWord(MAX), -11);
        check.due("count(5) before", x.count(5), 4);
        check.due("removeWord(1)", x.removeWord(1), 2);
        check.due("count(5): an action", x.count(5), 5);
        check.due("word(0, 0)", x.word(0, 0), 10);
        check.due("word(1, 0)", x.word(1, 0), 30);
        check.due("word(1, 7)", x.word(1, 7), 3);
        check.due("word(1, 4): still put", x.word(1, 4), 6);
        check.due("word(1, 5)", x.word(1, 5), 7);
        check.due("word(2, 0)", x.word(2, 0), -11);
        check.due("addWord takes the number again", x.addWord(5, 50, 5, 5, 0), 2);
        check.due("word(2, 4): not put", x.word(2, 4), -19);
        check.due("word(1, 0) is untouched", x.word(1, 0), 30);
        x.put(2, 0, 0);
        check.due("removeWord(2)", x.removeWord(2), 2);
        check.due("addWord in place of a put one", x.addWord(5, 50, 5, 5, 0), 2);
        check.due("word(2, 4): not put", x.word(2, 4), -19);
        check.due("removeWord(2)", x.removeWord(2), 2);
        check.due("removeWord(0)", x.removeWord(0), 1);
        check.due("word(0, 0)", x.word(0, 0), 30);
        check.due("removeWord(0)", x.removeWord(0), 0);
        check.due("count(0)", x.count(0), 0);
    }

    private static void setWord(Check check) {
        VoiceWords x = new VoiceWords();
        x.addWord(4, 10, 20, 30, 2);
        int[] previous = {10, 20, 30, 2};
        int[][] values = {{0, 2000, 7}, {1, 60, 8}, {0, 60, 9}, {0, 4, 1}};
        for (int what = 0; what < 4; what++) {
            int before = previous[what];
            for (int value : values[what]) {
                x.put(0, 1, 2);
                check.due("setWord(0, " + what + ", " + value + ")",
                        x.setWord(0, what, value), before);
                check.due("word(0, " + what + ")", x.word(0, what), value);
                check.due("word(0, 4): not put any more", x.word(0, 4), -19);
                before = value;
            }
        }
        int[] due = {7, 8, 9, 1};
        for (int what = 0; what < 4; what++) {
            check.due("word(0, " + what + ") at last", x.word(0, what), due[what]);
        }
        x.put(0, 1, 2);
        check.due("setWord to the same value", x.setWord(0, 0, 7), 7);
        check.due("it takes the word all the same", x.count(1), 0);
        check.due("undo(): it was an action", x.undo(), 4);
        check.due("count(1)", x.count(1), 1);
        x.addWord(2, 40, 2, 2, 0);
        x.setWord(1, 0, 41);
        check.due("another word is untouched", x.word(0, 0), 7);
        check.due("another word stays put", x.word(0, 4), 1);
    }

    private static void setWordErrors(Check check) {
        VoiceWords x = new VoiceWords();
        check.due("setWord of none", x.setWord(0, 0, 0), -11);
        x.addWord(4, 10, 20, 30, 2);
        x.put(0, 1, 2);
        int[][] wrong = {{-1, 0, 0}, {1, 0, 0}, {0, -1, 1}, {0, 4, 1}, {0, 7, 1},
            {0, 0, -1}, {0, 0, 2001}, {0, 1, 0}, {0, 1, 61}, {0, 2, -1}, {0, 2, 61},
            {0, 3, -1}, {0, 3, 5}, {MIN, 0, 0}, {MAX, 0, 0}, {0, MIN, 0}, {0, MAX, 0},
            {0, 0, MIN}, {0, 0, MAX}};
        for (int[] a : wrong) {
            check.due("setWord " + java.util.Arrays.toString(a), x.setWord(a[0], a[1], a[2]), -11);
        }
        check.due("count(1)", x.count(1), 1);
        check.due("count(5)", x.count(5), 2);
        int[] due = {10, 20, 30, 2};
        for (int what = 0; what < 4; what++) {
            check.due("word(0, " + what + ")", x.word(0, what), due[what]);
        }
    }

    private static void addShot(Check check) {
        VoiceWords x = new VoiceWords();
        check.due("addShot(0)", x.addShot(0), -11);
        check.due("addShot(3001)", x.addShot(3001), -11);
        check.due("addShot(MIN)", x.addShot(MIN), -11);
        check.due("addShot(MAX)", x.addShot(MAX), -11);
        check.due("addShot(3000)", x.addShot(3000), 1);
        check.due("addShot(1)", x.addShot(1), 2);
        check.due("addShot(50)", x.addShot(50), 3);
        check.due("addShot(50) again", x.addShot(50), -12);
        check.due("count(5): an action", x.count(5), 3);
        for (int k = 4; k <= 10; k++) {
            check.due("addShot(" + 10 * k + ")", x.addShot(10 * k == 50 ? 55 : 10 * k), k);
        }
        check.due("addShot an 11th", x.addShot(2), -13);
        check.due("addShot one that is there", x.addShot(40), -12);
        check.due("addShot a wrong one", x.addShot(0), -11);
        int[] due = {1, 40, 50, 55, 60, 70, 80, 90, 100, 3000, -19};
        for (int i = 0; i < due.length; i++) {
            check.due("shot(" + i + ")", x.shot(i), due[i]);
        }
        wordsStayPut(check);
    }

    private static void wordsStayPut(Check check) {
        VoiceWords x = new VoiceWords();
        x.addWord(3, 5, 10, 0, 0);
        x.put(0, 2, 3);
        x.addShot(6);
        check.due("count(1) after addShot", x.count(1), 1);
        check.due("word(0, 6) after addShot", x.word(0, 6), 5);
        x.removeShot(6);
        check.due("count(1) after removeShot", x.count(1), 1);
        check.due("word(0, 6) after removeShot", x.word(0, 6), 14);
        x.setSpeed(50);
        check.due("count(1) after setSpeed", x.count(1), 1);
        check.due("word(0, 4)", x.word(0, 4), 2);
        check.due("word(0, 5)", x.word(0, 5), 3);
    }

    private static void removeShot(Check check) {
        VoiceWords x = new VoiceWords();
        check.due("removeShot(5) of none", x.removeShot(5), -12);
        x.addShot(10);
        x.addShot(3000);
        x.addShot(1);
        check.due("removeShot(0)", x.removeShot(0), -11);
        check.due("removeShot(3001)", x.removeShot(3001), -11);
        check.due("removeShot(MIN)", x.removeShot(MIN), -11);
        check.due("removeShot(MAX)", x.removeShot(MAX), -11);
        check.due("removeShot(11)", x.removeShot(11), -12);
        check.due("count(5) before", x.count(5), 3);
        check.due("removeShot(10)", x.removeShot(10), 2);
        check.due("count(5): an action", x.count(5), 4);
        check.due("shot(0)", x.shot(0), 1);
        check.due("shot(1)", x.shot(1), 3000);
        check.due("shot(2)", x.shot(2), -19);
        check.due("removeShot(10) again", x.removeShot(10), -12);
        check.due("removeShot(3000)", x.removeShot(3000), 1);
        check.due("removeShot(1)", x.removeShot(1), 0);
        check.due("count(2)", x.count(2), 0);
        check.due("addShot(10)", x.addShot(10), 1);
    }

    private static void setSpeed(Check check) {
        VoiceWords x = new VoiceWords();
        check.due("setSpeed(49)", x.setSpeed(49), -11);
        check.due("setSpeed(401)", x.setSpeed(401), -11);
        check.due("setSpeed(MIN)", x.setSpeed(MIN), -11);
        check.due("setSpeed(MAX)", x.setSpeed(MAX), -11);
        check.due("count(3)", x.count(3), 100);
        check.due("count(5)", x.count(5), 0);
        check.due("setSpeed(50)", x.setSpeed(50), 100);
        check.due("setSpeed(400)", x.setSpeed(400), 50);
        check.due("setSpeed(400) again", x.setSpeed(400), 400);
        check.due("count(3)", x.count(3), 400);
        check.due("count(5): an action", x.count(5), 3);
    }
}
