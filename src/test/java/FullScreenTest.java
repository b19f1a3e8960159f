/** All promises where there is no room left: 12 words, 10 shots, 160 characters, 5 states. */
final class FullScreenTest {
    public static void main(String[] args) {
        Check check = new Check("FullScreenTest");
        fullText(check);
        looking(check);
        changing(check);
        longestWords(check);
        manyCalls(check);
        check.finish();
    }

    /** Twelve words of 12 letters, none meeting another one, and ten shots behind them. */
    private static VoiceWords full() {
        VoiceWords x = new VoiceWords();
        for (int k = 0; k < 12; k++) {
            x.addWord(12, 100, 60, 60, 0);
        }
        for (int k = 1; k <= 10; k++) {
            x.addShot(1000 * k / 4);
        }
        x.putAll();
        return x;
    }

    private static void fullText(Check check) {
        VoiceWords x = new VoiceWords();
        Check.write(x, "cut 5;");
        for (int length = 7; length <= 160; length++) {
            x.append(' ');
        }
        check.due("load() of an item and 154 spaces", x.load(), 1);
        StringBuilder digits = new StringBuilder("cut ");
        StringBuilder letters = new StringBuilder("say ");
        StringBuilder signs = new StringBuilder();
        for (int i = 0; i < 160; i++) {
            digits.append('1');
            letters.append('y');
            signs.append(';');
        }
        check.due("load() of a long number", Check.load(x, digits.toString()), -1004);
        check.due("load() of a long WORD", Check.load(x, letters.toString()), -1004);
        check.due("load() of other tokens", Check.load(x, signs.toString()), -1000);
        String start = "say a 1 2 3";
        Check.write(x, start);
        for (int length = start.length() + 1; length <= 160; length++) {
            x.append(' ');
        }
        check.due("load() that ends too early", x.load(), -1160);
    }

    private static void looking(Check check) {
        VoiceWords x = full();
        int[] counts = {12, 12, 10, 100, 0, 5, 0};
        for (int what = 0; what < counts.length; what++) {
            check.due("count(" + what + ")", x.count(what), counts[what]);
        }
        check.due("onScreen(219)", x.onScreen(219), 4095);
        check.due("onScreen(220)", x.onScreen(220), 0);
        check.due("filled(219)", x.filled(219), 144);
        check.due("filled(220)", x.filled(220), 0);
        check.due("written(7, 0, 219)", x.written(7, 0, 219), -19);
        check.due("written(5, 37, 219)", x.written(5, 37, 219), 'l');
        check.due("word(11, 6)", x.word(11, 6), 219);
        check.due("letter(11, 11)", x.letter(11, 11), 'l');
        check.due("letter(11, 12)", x.letter(11, 12), -19);
        check.due("shot(9)", x.shot(9), 2500);
        check.due("shot(10)", x.shot(10), -19);
        check.due("meeting(0, 11)", x.meeting(0, 11), -19);
        check.due("meeting(11, 12)", x.meeting(11, 12), -11);
        check.due("pace(159)", x.pace(159), 60);
        check.due("earliest(11, 3, 14)", x.earliest(11, 3, 14), 220);
        check.due("earliest(11, 5, 26)", x.earliest(11, 5, 26), 100);
        check.due("put(11, 3, 14)", x.put(11, 3, 14), -12);
        check.due("where(11, 219, 1)", x.where(11, 219, 1), 26);
    }

    private static void changing(Check check) {
        VoiceWords x = full();
        check.due("addWord", x.addWord(1, 0, 1, 0, 0), -13);
        check.due("addShot", x.addShot(1), -13);
        check.due("load of a word", Check.load(x, "say a 0 1 0;"), -1000);
        check.due("load of a shot", Check.load(x, "cut 1;"), -1000);
        check.due("setWord(11, 0, 2000)", x.setWord(11, 0, 2000), 100);
        check.due("removeWord(11)", x.removeWord(11), 11);
        check.due("undo()", x.undo(), 4);
        check.due("removeWord(0)", x.removeWord(0), 11);
        check.due("word(10, 0)", x.word(10, 0), 2000);
        check.due("addWord", x.addWord(1, 7, 1, 0, 0), 11);
        check.due("word(11, 0)", x.word(11, 0), 7);
        check.due("removeShot(2500)", x.removeShot(2500), 9);
        check.due("addShot(1)", x.addShot(1), 10);
        check.due("shot(9)", x.shot(9), 2250);
        check.due("putAll()", x.putAll(), 12);
        check.due("word(11, 5): the first one now", x.word(11, 5), 19);
    }

    /** The longest way: 80 frames for 40 cells, behind the last first frame and 120 more. */
    private static void longestWords(Check check) {
        VoiceWords x = new VoiceWords();
        x.addWord(12, 2000, 60, 60, 1);
        x.addWord(12, 2000, 60, 60, 2);
        x.setSpeed(50);
        x.put(0, 0, 28);
        x.put(1, 7, 0);
        check.due("word(0, 6)", x.word(0, 6), 2198);
        check.due("word(1, 6)", x.word(1, 6), 2198);
        check.due("where(0, 2198, 1)", x.where(0, 2198, 1), -1011);
        check.due("where(1, 2198, 1)", x.where(1, 2198, 1), 39);
        check.due("filled(2198)", x.filled(2198), 2);
        check.due("filled(2199)", x.filled(2199), 0);
    }

    /** The dearest calls as often as an object may be called. */
    private static void manyCalls(Check check) {
        VoiceWords x = full();
        int wrong = 0;
        for (int call = 0; call < 488; call++) {
            int answer = call % 2 == 0 ? x.putAll() : x.earliest(11, 3, 14);
            wrong += answer == (call % 2 == 0 ? 12 : 220) ? 0 : 1;
        }
        check.due("wrong answers", wrong, 0);
    }
}
