/** Promises 8 to 10: append, clearText, load. */
final class TextTest {
    public static void main(String[] args) {
        Check check = new Check("TextTest");
        append(check);
        clearText(check);
        loadWords(check);
        loadShots(check);
        loadIsOneAction(check);
        goodTexts(check);
        badTexts(check);
        anyOtherCharacter(check);
        capacities(check);
        errorChangesNothing(check);
        check.finish();
    }

    private static void append(Check check) {
        VoiceWords x = new VoiceWords();
        int[] wrong = {0, -1, 256, Integer.MIN_VALUE, Integer.MAX_VALUE};
        for (int character : wrong) {
            check.due("append(" + character + ")", x.append(character), -11);
        }
        check.due("append(1)", x.append(1), 1);
        check.due("append(255)", x.append(255), 2);
        for (int length = 3; length <= 160; length++) {
            check.due("append(32)", x.append(32), length);
        }
        check.due("append a 161st", x.append(32), -13);
        check.due("append a wrong 161st", x.append(0), -11);
        check.due("count(6)", x.count(6), 160);
        check.due("count(5): no action", x.count(5), 0);
    }

    private static void clearText(Check check) {
        VoiceWords x = new VoiceWords();
        check.due("clearText() of none", x.clearText(), 0);
        Check.write(x, "say a 1 2 3");
        check.due("clearText()", x.clearText(), 11);
        check.due("count(6)", x.count(6), 0);
        check.due("count(5): no action", x.count(5), 0);
        check.due("append(32)", x.append(32), 1);
        check.due("load() of a space", x.load(), 0);
    }

    private static void loadWords(Check check) {
        VoiceWords x = new VoiceWords();
        x.addWord(2, 9, 9, 9, 0);
        check.due("load", Check.load(x, "say hey 0 1 0;say abcdefghijkl 2000 60 60 left;"
                + "say z 7 8 9 right;say say 10 11 12 up;say down 1 2 3 down;"), 5);
        int[][] due = {{9, 9, 9, 0, 2}, {0, 1, 0, 0, 3}, {2000, 60, 60, 1, 12}, {7, 8, 9, 2, 1},
            {10, 11, 12, 3, 3}, {1, 2, 3, 4, 4}};
        for (int k = 0; k < due.length; k++) {
            for (int what = 0; what < 4; what++) {
                check.due("word(" + k + ", " + what + ")", x.word(k, what), due[k][what]);
            }
            check.due("word(" + k + ", 7)", x.word(k, 7), due[k][4]);
            check.due("word(" + k + ", 4): not put", x.word(k, 4), -19);
        }
        String[] letters = {"ab", "hey", "abcdefghijkl", "z", "say", "down"};
        for (int k = 0; k < letters.length; k++) {
            for (int i = 0; i < letters[k].length(); i++) {
                check.due("letter(" + k + ", " + i + ")", x.letter(k, i), letters[k].charAt(i));
            }
            check.due("letter behind the last", x.letter(k, letters[k].length()), -19);
        }
    }

    private static void loadShots(Check check) {
        VoiceWords x = new VoiceWords();
        x.addShot(50);
        check.due("load", Check.load(x, "cut 3000;cut 1;cut 49;"), 3);
        int[] due = {1, 49, 50, 3000, -19};
        for (int i = 0; i < due.length; i++) {
            check.due("shot(" + i + ")", x.shot(i), due[i]);
        }
        check.due("load one that is there", Check.load(x, "cut 50;"), -1004);
        check.due("load one twice", Check.load(x, "cut 7;cut 7;"), -1010);
        check.due("load one twice, at the end", Check.load(x, "cut 7;cut 7"), -1010);
        check.due("count(2)", x.count(2), 4);
    }

    private static void loadIsOneAction(Check check) {
        VoiceWords x = new VoiceWords();
        Check.write(x, "say a 1 2 3;cut 4;say b 5 6 7;");
        check.due("load()", x.load(), 3);
        check.due("count(5)", x.count(5), 1);
        check.due("count(6): the text is empty", x.count(6), 0);
        check.due("load() of nothing", x.load(), 0);
        check.due("count(5): an action without items too", x.count(5), 2);
        check.due("undo()", x.undo(), 1);
        check.due("count(0)", x.count(0), 2);
        check.due("undo()", x.undo(), 0);
        check.due("count(0)", x.count(0), 0);
        check.due("count(2)", x.count(2), 0);
        check.due("count(6): no part of the state", x.count(6), 0);
    }

    private static void goodTexts(Check check) {
        Object[][] rows = {
            {"", 0}, {" ", 0}, {"   ", 0}, {"cut1;", 1}, {" cut  1 ; ", 1}, {"cut 1 ;cut 2;", 2},
            {"say a0 1 0;", 1}, {"say a 0 1 0left;", 1}, {"say a 0 1 0 left ;", 1},
            {"  say   a   0   1   0   down   ;  ", 1}, {"say cut 0 1 0;", 1},
            {"say left 0 1 0 left;cut1;say up 0 1 0;", 3}, {"say a 2000 60 60;", 1},
            {"cut 3000;", 1}};
        for (Object[] row : rows) {
            check.due("load \"" + row[0] + "\"", Check.load(new VoiceWords(), (String) row[0]),
                    (Integer) row[1]);
        }
    }

    private static void badTexts(Check check) {
        Object[][] rows = {
            // the text ends where another token must come
            {"say", 3}, {"say ", 4}, {"say a", 5}, {"say a 1", 7}, {"say a 1 2", 9},
            {"say a 1 2 3", 11}, {"say a 1 2 3 up", 14}, {"say a 1 2 3 up  ", 16},
            {"cut", 3}, {"cut 1", 5}, {"cut 1;cut 2", 11}, {" say  a 1 2 3  ", 15},
            // tokens that the grammar does not allow there
            {";", 0}, {" ;", 1}, {"5", 0}, {"say;", 3}, {"say 5", 4}, {"say a;", 5},
            {"say a b", 6}, {"say a 1 b", 8}, {"say a 1 2 up", 10}, {"say a 1 2;", 9},
            {"say a 1 2 3 4;", 12}, {"say a 1 2 3 up up;", 15}, {"say a 1 2 3 up 4;", 15},
            {"cut;", 3}, {"cut a;", 4}, {"cut 1 2;", 6}, {"cut 1 up;", 6}, {"cut 1;;", 6},
            {"say a 1 2 3 say b 1 2 3;", 12},
            // another word where one of those in quotes must stand
            {"sa", 0}, {"says", 0}, {"sayy a 1 2 3;", 0}, {"cu 1;", 0}, {"left;", 0},
            {"sayabc 1 2 3;", 0}, {"say a 1 2 3 lef;", 12}, {"say a 1 2 3 upp;", 12},
            {"say a 1 2 3 leftright;", 12}, {"say a 1 2 3 none;", 12}, {"say a 1 2 3 say;", 12},
            {"cut 1;x", 6}, {"cuz 1;", 0}, {"aay a 1 2 3;", 0}, {"sby a 1 2 3;", 0}, {"but 1;", 0},
            {"cat 1;", 0}, {"say a 1 2 3 heft;", 12}, {"say a 1 2 3 light;", 12},
            {"say a 1 2 3 op;", 12}, {"say a 1 2 3 town;", 12}, {"say a 1 2 3 us;", 12},
            // a WORD with more than 12 letters
            {"say abcdefghijklm 1 2 3;", 4}, {"say abcdefghijklm", 4},
            // numbers out of range, or with a 0 ahead
            {"say a 2001 1 0;", 6}, {"say a 0 0 0;", 8}, {"say a 0 61 0;", 8},
            {"say a 0 1 61;", 10}, {"say a 00 1 0;", 6}, {"say a 01 1 0;", 6},
            {"say a 0 01 0;", 8}, {"say a 0 1 00;", 10}, {"say a 0 1 01", 10},
            {"cut 0;", 4}, {"cut 00;", 4}, {"cut 01;", 4}, {"cut 3001;", 4}, {"cut 3001", 4},
            {"say a 2001", 6}, {"say a 99999999999 1 0;", 6}, {"say a 4294967297 1 0;", 6},
            {"cut 4294967297;", 4}, {"cut 18446744073709551617;", 4},
            // the first token that is not allowed counts, not a later one
            {"say a 2001 0 99;", 6}, {"cut 5;say a 1 2;cut 5;", 15}};
        for (Object[] row : rows) {
            check.due("load \"" + row[0] + "\"", Check.load(new VoiceWords(), (String) row[0]),
                    -1000 - (Integer) row[1]);
        }
    }

    private static void anyOtherCharacter(Check check) {
        for (int character = 1; character <= 255; character++) {
            boolean isAllowed = character == ' ' || character == ';'
                    || character >= '0' && character <= '9'
                    || character >= 'a' && character <= 'z';
            if (!isAllowed) {
                VoiceWords x = new VoiceWords();
                String sign = String.valueOf((char) character);
                check.due("load of " + character, Check.load(x, sign), -1000);
                check.due("load within a word", Check.load(x, "say a" + sign + "b 1 2 3;"), -1005);
                check.due("load within a number", Check.load(x, "cut 1" + sign + ";"), -1005);
                check.due("load behind an item", Check.load(x, "cut 1;" + sign), -1006);
            }
        }
    }

    private static void capacities(Check check) {
        VoiceWords x = new VoiceWords();
        for (int k = 0; k < 11; k++) {
            x.addWord(1, 0, 1, 0, 0);
        }
        check.due("load a 13th with the text's", Check.load(x, "say a 0 1 0;say b 0 1 0;"), -1012);
        check.due("load a 13th, alone", Check.load(x, "say a 0 1 0; say"), -1013);
        check.due("load a 12th", Check.load(x, "say a 0 1 0;cut 5;"), 2);
        check.due("load a 13th", Check.load(x, " say b 0 1 0;"), -1001);
        VoiceWords y = new VoiceWords();
        for (int k = 1; k <= 9; k++) {
            y.addShot(k);
        }
        check.due("load an 11th with the text's", Check.load(y, "cut 10;cut 11;"), -1007);
        check.due("load a 10th", Check.load(y, "cut 10;say a 0 1 0;"), 2);
        check.due("load an 11th", Check.load(y, "cut 11;"), -1000);
        check.due("load an 11th that is there", Check.load(y, "cut 10;"), -1000);
        VoiceWords z = new VoiceWords();
        check.due("load 10 shots", Check.load(z, "cut1;cut2;cut3;cut4;cut5;cut6;cut7;cut8;cut9;"
                + "cut10;"), 10);
        check.due("load 12 words", Check.load(z, "say a0 1 0;say b0 1 0;say c0 1 0;say d0 1 0;"
                + "say e0 1 0;say f0 1 0;say g0 1 0;say h0 1 0;say i0 1 0;say j0 1 0;say k0 1 0;"
                + "say l0 1 0;"), 12);
        check.due("load nothing more", Check.load(z, ""), 0);
    }

    private static void errorChangesNothing(Check check) {
        VoiceWords x = new VoiceWords();
        x.addWord(3, 5, 6, 7, 1);
        x.put(0, 2, 3);
        x.addShot(9);
        Check.write(x, "say a 1 2 3;cut 4;cut 9;");
        for (int time = 0; time < 2; time++) {
            check.due("load()", x.load(), -1022);
            check.due("count(0)", x.count(0), 1);
            check.due("count(1)", x.count(1), 1);
            check.due("count(2)", x.count(2), 1);
            check.due("count(5)", x.count(5), 3);
            check.due("count(6): the text is kept", x.count(6), 24);
        }
        x.removeShot(9);
        check.due("load() when nothing bars it", x.load(), 3);
        check.due("count(0)", x.count(0), 2);
        check.due("word(0, 4): still put", x.word(0, 4), 2);
    }
}
