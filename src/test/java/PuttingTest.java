/** Promises 11 to 14: put, take, putAll, undo. */
final class PuttingTest {
    private static final int MIN = Integer.MIN_VALUE;
    private static final int MAX = Integer.MAX_VALUE;

    public static void main(String[] args) {
        Check check = new Check("PuttingTest");
        put(check);
        putErrors(check);
        putMeeting(check);
        take(check);
        putAllPlaces(check);
        putAllLanes(check);
        putAllOrder(check);
        putAllWithoutPlace(check);
        putAllAnew(check);
        undo(check);
        undoRestoresAll(check);
        check.finish();
    }

    private static void put(Check check) {
        VoiceWords x = new VoiceWords();
        x.addWord(12, 0, 10, 0, 0);
        x.addWord(1, 0, 10, 0, 0);
        check.due("put(0, 0, 28)", x.put(0, 0, 28), 1);
        check.due("put(1, 7, 39)", x.put(1, 7, 39), 2);
        check.due("count(5): an action", x.count(5), 4);
        check.due("put(0, 0, 0) of a put word", x.put(0, 0, 0), 2);
        check.due("word(0, 5)", x.word(0, 5), 0);
        check.due("put(0, 0, 1) over its own cells", x.put(0, 0, 1), 2);
        check.due("word(0, 5)", x.word(0, 5), 1);
        check.due("put(0, 0, 1) at the same place", x.put(0, 0, 1), 2);
        x.undo();
        check.due("it was an action", x.word(0, 5), 1);
        x.undo();
        check.due("the one before", x.word(0, 5), 0);
    }

    private static void putErrors(Check check) {
        VoiceWords x = new VoiceWords();
        check.due("put of none", x.put(0, 0, 0), -11);
        x.addWord(12, 0, 10, 0, 0);
        x.addWord(1, 0, 10, 0, 0);
        int[][] wrong = {{-1, 0, 0}, {2, 0, 0}, {0, -1, 0}, {0, 8, 0}, {0, 0, -1}, {0, 0, 29},
            {1, 0, 40}, {MIN, 0, 0}, {MAX, 0, 0}, {0, MIN, 0}, {0, MAX, 0}, {0, 0, MIN},
            {0, 0, MAX}};
        for (int[] a : wrong) {
            check.due("put " + java.util.Arrays.toString(a), x.put(a[0], a[1], a[2]), -11);
        }
        check.due("count(1)", x.count(1), 0);
        check.due("count(5)", x.count(5), 2);
    }

    private static void putMeeting(Check check) {
        VoiceWords x = new VoiceWords();
        x.addWord(5, 0, 10, 0, 0);
        x.addWord(3, 9, 10, 0, 0);
        x.addWord(3, 10, 10, 0, 0);
        x.put(0, 4, 10);
        check.due("put a meeting word", x.put(1, 4, 14), -12);
        check.due("put a meeting word", x.put(1, 4, 8), -12);
        check.due("word(1, 4)", x.word(1, 4), -19);
        check.due("count(5)", x.count(5), 4);
        check.due("put behind it", x.put(1, 4, 15), 2);
        check.due("put before it", x.put(1, 4, 7), 2);
        check.due("put where it meets again", x.put(1, 4, 10), -12);
        check.due("it stays at its place", x.word(1, 5), 7);
        check.due("put in another lane", x.put(1, 5, 10), 2);
        check.due("put when the other is gone", x.put(2, 4, 10), 3);
        VoiceWords y = new VoiceWords();
        y.addWord(4, 0, 5, 0, 4);
        y.addWord(1, 0, 20, 0, 0);
        y.put(0, 0, 0);
        check.due("put in the way of a word that moves down", y.put(1, 7, 3), -12);
        check.due("put beside its way", y.put(1, 7, 4), 2);
    }

    private static void take(Check check) {
        VoiceWords x = new VoiceWords();
        check.due("take of none", x.take(0), -11);
        x.addWord(5, 0, 10, 0, 0);
        x.addWord(5, 0, 10, 0, 0);
        check.due("take(0) of one that is not put", x.take(0), -12);
        check.due("take(-1)", x.take(-1), -11);
        check.due("take(2)", x.take(2), -11);
        check.due("take(MIN)", x.take(MIN), -11);
        check.due("take(MAX)", x.take(MAX), -11);
        x.put(0, 0, 0);
        x.put(1, 1, 0);
        check.due("count(5) before", x.count(5), 4);
        check.due("take(0)", x.take(0), 1);
        check.due("count(5): an action", x.count(5), 5);
        check.due("take(0) again", x.take(0), -12);
        check.due("word(0, 4)", x.word(0, 4), -19);
        check.due("word(1, 4)", x.word(1, 4), 1);
        check.due("take(1)", x.take(1), 0);
    }

    /** Twelve words at once, of a length: how lanes and columns follow one another. */
    private static void putAllPlaces(Check check) {
        int[][] lengths = {
            {12, 3, 14, 3, 2, 3, 26, 4, 14, 4, 2, 4, 26, 2, 14, 2, 2, 2, 26, 5, 14, 5, 2, 5, 26},
            {11, 3, 14, 3, 3, 3, 25, 4, 14, 4, 3, 4, 25, 2, 14, 2, 3, 2, 25, 5, 14, 5, 3, 5, 25},
            {1, 3, 19, 3, 18, 3, 20, 3, 17, 3, 21, 3, 16, 3, 22, 3, 15, 3, 23, 3, 14, 3, 24,
                3, 13},
            {2, 3, 19, 3, 17, 3, 21, 3, 15, 3, 23, 3, 13, 3, 25, 3, 11, 3, 27, 3, 9, 3, 29, 3, 7}};
        for (int[] row : lengths) {
            VoiceWords x = new VoiceWords();
            for (int k = 0; k < 12; k++) {
                x.addWord(row[0], 7, 10, 0, 0);
            }
            check.due("putAll()", x.putAll(), 12);
            for (int k = 0; k < 12; k++) {
                check.due(row[0] + " letters: word(" + k + ", 4)", x.word(k, 4), row[1 + 2 * k]);
                check.due(row[0] + " letters: word(" + k + ", 5)", x.word(k, 5), row[2 + 2 * k]);
            }
        }
    }

    /**
     * Three words in lane 3 that go up and three in lane 4 that go down bar a lane more in each
     * frame from 10 on, so it depends on the last frame of the others which lanes they are put in.
     */
    private static void putAllLanes(Check check) {
        int[] columns = {14, 2, 26};
        // spoken frames, and the lanes for three words then
        int[][] rows = {{10, 2, 5}, {11, 1, 6}, {12, 0, 7}};
        for (int[] r : rows) {
            VoiceWords x = barredScreen();
            for (int k = 0; k < 6; k++) {
                x.addWord(12, 0, r[0], 0, 0);
            }
            check.due("putAll()", x.putAll(), 12);
            for (int k = 0; k < 12; k++) {
                int lane = new int[] {3, 4, r[1], r[2]}[k / 3];
                check.due(r[0] + " frames: word(" + k + ", 4)", x.word(k, 4), lane);
                check.due(r[0] + " frames: word(" + k + ", 5)", x.word(k, 5), columns[k % 3]);
            }
        }
    }

    private static VoiceWords barredScreen() {
        VoiceWords x = new VoiceWords();
        for (int k = 0; k < 6; k++) {
            x.addWord(12, 0, 10, 0, k < 3 ? 3 : 4);
        }
        return x;
    }

    private static void putAllOrder(Check check) {
        VoiceWords x = new VoiceWords();
        x.addWord(2, 5, 10, 0, 0);
        x.addWord(2, 4, 10, 0, 0);
        x.addWord(3, 5, 10, 0, 0);
        x.addWord(2, 5, 10, 0, 0);
        x.addWord(3, 5, 10, 0, 0);
        check.due("putAll()", x.putAll(), 5);
        // the order is 1, 2, 4, 0, 3
        int[] columns = {14, 19, 16, 24, 21};
        for (int k = 0; k < 5; k++) {
            check.due("word(" + k + ", 4)", x.word(k, 4), 3);
            check.due("word(" + k + ", 5)", x.word(k, 5), columns[k]);
        }
        check.due("the numbers stay: word(1, 0)", x.word(1, 0), 4);
        check.due("count(5)", x.count(5), 5);
        check.due("undo()", x.undo(), 4);
        check.due("count(1)", x.count(1), 0);
    }

    private static void putAllWithoutPlace(Check check) {
        VoiceWords x = barredScreen();
        x.addWord(12, 0, 13, 0, 0);
        x.addWord(1, 0, 60, 0, 0);
        x.addShot(14);
        x.put(6, 0, 0);
        check.due("putAll()", x.putAll(), 7);
        check.due("word(6, 4): it has no place", x.word(6, 4), -19);
        check.due("word(7, 4)", x.word(7, 4), 3);
        check.due("word(7, 5): beside the others", x.word(7, 5), 1);
        check.due("onScreen(13)", x.onScreen(13), 128);
        // in each lane the columns 0, 1, 38 and 39 are free, the last ones that are tried
        VoiceWords y = barredScreen();
        int[][] places = {{3, 1}, {3, 0}, {3, 38}, {3, 39}, {4, 1}, {4, 0}};
        for (int k = 0; k < places.length; k++) {
            y.addWord(1, 0, 60, 0, 0);
        }
        check.due("putAll()", y.putAll(), 12);
        for (int k = 0; k < places.length; k++) {
            check.due("word(" + (6 + k) + ", 4)", y.word(6 + k, 4), places[k][0]);
            check.due("word(" + (6 + k) + ", 5)", y.word(6 + k, 5), places[k][1]);
        }
    }

    private static void putAllAnew(Check check) {
        VoiceWords x = new VoiceWords();
        x.addWord(4, 0, 10, 0, 0);
        x.addWord(4, 1, 10, 0, 0);
        x.put(1, 3, 18);
        x.put(0, 7, 0);
        check.due("putAll() takes them first", x.putAll(), 2);
        check.due("word(0, 4)", x.word(0, 4), 3);
        check.due("word(0, 5)", x.word(0, 5), 18);
        check.due("word(1, 5)", x.word(1, 5), 14);
        x.setWord(0, 0, 2);
        x.put(0, 3, 18);
        check.due("putAll() when the other one comes first", x.putAll(), 2);
        check.due("word(1, 5)", x.word(1, 5), 18);
        check.due("word(0, 5)", x.word(0, 5), 14);
        check.due("putAll() without words", new VoiceWords().putAll(), 0);
        VoiceWords y = new VoiceWords();
        y.putAll();
        check.due("count(5): an action without words too", y.count(5), 1);
        VoiceWords z = new VoiceWords();
        z.addWord(4, 0, 20, 0, 0);
        z.addWord(4, 5, 20, 0, 0);
        z.addShot(5);
        z.putAll();
        check.due("a shot in its first frame clears the screen for it", z.word(1, 5), 18);
    }

    private static void undo(Check check) {
        VoiceWords x = new VoiceWords();
        check.due("undo() of none", x.undo(), -12);
        for (int k = 0; k < 7; k++) {
            x.setSpeed(101 + k);
            check.due("count(5)", x.count(5), Math.min(k + 1, 5));
        }
        for (int k = 0; k < 5; k++) {
            check.due("undo()", x.undo(), 4 - k);
            check.due("count(3)", x.count(3), 106 - k);
        }
        check.due("undo() of none left", x.undo(), -12);
        check.due("count(3): the oldest were dropped", x.count(3), 102);
        x.setSpeed(200);
        check.due("count(5): undo is no action", x.count(5), 1);
        x.setSpeed(49);
        x.append('a');
        x.clearText();
        x.count(0);
        check.due("count(5): only successful actions", x.count(5), 1);
        check.due("undo()", x.undo(), 0);
        check.due("count(3)", x.count(3), 102);
    }

    private static void undoRestoresAll(Check check) {
        VoiceWords x = new VoiceWords();
        Check.load(x, "say hello 1 2 3 up;say you 4 5 6;cut 70;");
        x.put(1, 2, 3);
        x.removeWord(0);
        x.removeShot(70);
        check.due("undo()", x.undo(), 3);
        check.due("shot(0)", x.shot(0), 70);
        check.due("undo()", x.undo(), 2);
        int[][] due = {{1, 2, 3, 3, -19, -19, -19, 5}, {4, 5, 6, 0, 2, 3, 14, 3}};
        for (int k = 0; k < 2; k++) {
            for (int what = 0; what < 8; what++) {
                check.due("word(" + k + ", " + what + ")", x.word(k, what), due[k][what]);
            }
        }
        for (int i = 0; i < 5; i++) {
            check.due("letter(0, " + i + ")", x.letter(0, i), "hello".charAt(i));
        }
        x.removeWord(0);
        x.addWord(12, 9, 9, 9, 1);
        x.setWord(0, 1, 60);
        check.due("undo() of setWord", x.undo(), 4);
        check.due("word(0, 1)", x.word(0, 1), 5);
        check.due("word(0, 4)", x.word(0, 4), 2);
        x.undo();
        x.undo();
        check.due("letter(0, 4) after a removal", x.letter(0, 4), 'o');
        check.due("word(1, 5)", x.word(1, 5), 3);
        Check.write(x, "cut");
        x.undo();
        check.due("count(6): the text is no part of it", x.count(6), 3);
        check.due("count(1): the word was not put then", x.count(1), 0);
    }
}
