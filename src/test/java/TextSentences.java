import java.util.ArrayList;
import java.util.List;

/** The sentences of the term "Text". */
final class TextSentences {
    private static final String ELEVEN_WORDS = "11 x addWord(1, 0, 1, 0, 0)";
    private static final String[] NINE_SHOTS = {"addShot(1)", "addShot(2)", "addShot(3)",
        "addShot(4)", "addShot(5)", "addShot(6)", "addShot(7)", "addShot(8)", "addShot(9)"};

    private final Sentences s;

    private TextSentences(Sentences s) {
        this.s = s;
    }

    static void all(Sentences s) {
        TextSentences of = new TextSentences(s);
        of.items();
        of.say();
        of.cut();
        of.added();
        of.runsOfSigns();
        of.spaces();
        of.fromLeftToRight();
        of.byTheGrammar();
        of.otherTokens();
        of.otherCharacters();
        of.numbers();
        of.shotsThatAreThere();
        of.asManyAsCanBe();
        of.lastToken();
        of.tooShort();
    }

    /** Loads a text on a new object; "load() = -1004" tells an error in its position 4. */
    private void load(String text, int due) {
        s.run("load(\"" + text + "\") = " + due);
    }

    private void error(String text, int position) {
        s.run("load(\"" + text + "\") = " + (-1000 - position), "count(0) = 0", "count(2) = 0",
                "count(5) = 0", "clearText() = " + text.length());
    }

    private void items() {
        s.of("Text", "Words and shots can be read from a text of at most 160 characters, a "
                + "sequence of items (possibly none), each of which ends with \";\":");
        s.run("load() = 0", "count(0) = 0", "count(2) = 0", "count(5) = 1");
        load(" ", 0);
        s.run("160 x append(32)", "append(32) = CAPACITY_EXCEEDED", "load() = 0");
        s.run("153 x append(32)", "append(\"cut 77;\")", "append(32) = CAPACITY_EXCEEDED",
                "count(6) = 160", "load() = 1", "shot(0) = 77", "count(6) = 0");
        s.run("append(\"say a 0 1 0;\")", "148 x append(32)", "append(59) = CAPACITY_EXCEEDED",
                "load() = 1", "count(0) = 1");
        load("cut 5;", 1);
        load("cut 5;cut 6;", 2);
        load("cut 5;say a 0 1 0;cut 6;", 3);
        error("cut 5", 5);
        error("cut 5 cut 6;", 6);
        error("say a 0 1 0 say b 0 1 0;", 12);
        error(";", 0);
        error("cut 5;;", 6);
    }

    private void say() {
        s.of("Text", "\"say\" WORD FRAME SPOKEN HELD and possibly \"left\", \"right\", \"up\" or "
                + "\"down\" for the way out");
        String[] ways = {"", "left", "right", "up", "down"};
        for (int way = 0; way <= 4; way++) {
            s.run("load(\"say yes 17 23 42 " + ways[way] + ";\") = 1", "word(0, 0) = 17",
                    "word(0, 1) = 23", "word(0, 2) = 42", "word(0, 3) = " + way, "word(0, 7) = 3",
                    "letter(0, 0) = 'y'", "letter(0, 1) = 'e'", "letter(0, 2) = 's'",
                    "letter(0, 3) = NONE");
        }
        // the words in quotes may be a WORD, too
        for (String word : new String[] {"say", "cut", "left", "right", "up", "down"}) {
            s.run("load(\"say " + word + " 0 1 0 up;\") = 1", "word(0, 7) = " + word.length(),
                    "letter(0, 0) = '" + word.charAt(0) + "'", "word(0, 3) = 3");
        }
    }

    private void cut() {
        s.of("Text", "\"cut\" FRAME a shot");
        s.run("load(\"cut 1;\") = 1", "shot(0) = 1", "count(2) = 1", "count(0) = 0");
        s.run("load(\"cut 3000;\") = 1", "shot(0) = 3000");
        error("cut 0;", 4);
        error("cut 3001;", 4);
        error("cut 5 left;", 6);
    }

    private void added() {
        s.of("Text", "They are added to what there is, in their order; words are not put.");
        s.run("addWord(2, 9, 8, 7, 0)", "put(0, 1, 1)", "addShot(30)",
                "load(\"say x 3 1 0;cut 20;say yy 1 1 0;cut 40;\") = 4", "count(0) = 3",
                "word(0, 0) = 9", "word(0, 4) = 1", "word(1, 0) = 3", "word(2, 0) = 1",
                "word(1, 4) = NONE", "word(2, 4) = NONE", "count(1) = 1", "shot(0) = 20",
                "shot(1) = 30", "shot(2) = 40", "letter(1, 0) = 'x'", "letter(2, 1) = 'y'");
        // a word that takes the number of one that had been put is not put either
        s.run("addWord(2, 9, 8, 7, 0)", "put(0, 1, 1)", "removeWord(0)", "load(\"say a 9 8 7;\") = 1",
                "word(0, 4) = NONE", "letter(0, 1) = NONE", "count(1) = 0");
    }

    private void runsOfSigns() {
        s.of("Text", "WORD is a maximal run of letters a to z; FRAME, SPOKEN and HELD are numbers: "
                + "maximal runs of digits, which must not begin with 0 unless they are the single "
                + "digit 0.");
        s.run("load(\"say azbycx0 1 0;\") = 1", "word(0, 7) = 6", "letter(0, 5) = 'x'");
        s.run("load(\"say a 1000 10 20;cut 100;\") = 2", "word(0, 0) = 1000", "word(0, 1) = 10",
                "word(0, 2) = 20", "shot(0) = 100");
        s.run("load(\"say a 0 1 0;\") = 1", "word(0, 0) = 0", "word(0, 2) = 0");
        error("say abcdefghijklm 0 1 0;", 4);
        error("say a 00 1 0;", 6);
        error("say a 01 1 0;", 6);
        error("say a 0 01 0;", 8);
        error("say a 0 00 0;", 8);
        error("say a 0 1 00;", 10);
        error("say a 0 1 07;", 10);
        error("cut 01;", 4);
        error("cut 00;", 4);
        error("cut 0000000000001;", 4);
        error("cut 1a;", 5);
        error("say a 0 1a 0;", 9);
    }

    private void spaces() {
        s.of("Text", "Spaces (code 32) may stand before, between and after tokens; they are needed "
                + "only between two runs of letters or two numbers.");
        load("  say  a  0  1  0  left  ;  cut  5  ;  ", 2);
        load("say a0 1 0left;cut5;", 2);
        load("say a0 1 0;cut5;say b0 1 0up;", 3);
        s.run("load(\"cut12;\") = 1", "shot(0) = 12");
        error("saya 0 1 0;", 0);
        error("say a0 10;", 9);
        error("say a01 0;", 5);
        error("say a 0 1 0leftright;", 11);
        error("cut 1 2;", 6);
        error("cut5;cut 5 6;", 9);
        error("s ay a 0 1 0;", 0);
        error("cut 5;c ut 6;", 6);
        error("say a 0 1 0 le ft;", 12);
        for (String blank : new String[] {"\t", "\n", "\r", "\u000b", "\f", "\u00a0", "\u001f"}) {
            error(blank + "cut 5;", 0);
            error("cut" + blank + "5;", 3);
            error("cut 5" + blank + ";", 5);
            error("cut 5;" + blank, 6);
            error("say" + blank + "a 0 1 0;", 3);
        }
    }

    private void fromLeftToRight() {
        s.of("Text", "The text is read from left to right.");
        error("cut 5;say a 1 2 3;cut 5;", 22);
        error("cut 0;say A 0 0 0;", 4);
        error("say a 2001 0 61 back;", 6);
        error("say a 0 0 61 back;", 8);
        error("say a 0 1 61 back;", 10);
        error("say a 0 1 0 back", 12);
        error("cut 9;cut 8;cut 9;cut 8;", 16);
        s.run("addShot(9)", "load(\"cut 8;cut 9;cut 8;\") = -1010");
        s.run("load(\"cut 9;cut 8;\") = 2", "shot(0) = 8", "shot(1) = 9");
    }

    private void byTheGrammar() {
        s.of("Text", "The error position is the offset (from 0) of the first character of the "
                + "first token that is not allowed where it stands: by the grammar;");
        // where an item begins
        error("5", 0);
        error(";", 0);
        error("   5", 3);
        error("cut 5;6;", 6);
        // in a word
        error("say 5", 4);
        error("say ;", 4);
        error("say a b 1 0;", 6);
        error("say a ;", 6);
        error("say a 0 b 0;", 8);
        error("say a 0;", 7);
        error("say a 0 1 b;", 10);
        error("say a 0 1;", 9);
        error("say a 0 1 left;", 10);
        error("say a 0 1 0 5;", 12);
        error("say a 0 1 0 up up;", 15);
        error("say a 0 1 0 up 5;", 15);
        error("say a 0 1 0 up say b 0 1 0;", 15);
        // in a shot
        error("cut a;", 4);
        error("cut;", 3);
        error("cut 5 a;", 6);
        error("cut 5 6;", 6);
        error("cut 5 cut 6;", 6);
        // the first character of the token, not the one in which it goes wrong
        error("cut 5;sayx 0 1 0;", 6);
        error("say abcdefghijklmnopqrstuvwxyz 0 1 0;", 4);
        error("say a 123456 1 0;", 6);
    }

    private void otherTokens() {
        s.of("Text", "because it is another word where one of those in quotes must stand, any other "
                + "character, a WORD with more than 12 letters, or a number that is out of its "
                + "range or with a 0 ahead;");
        for (String word : new String[] {"s", "sa", "says", "sbay", "zay", "sax", "sby", "c", "cu",
            "cuts", "cux", "czt", "zut", "saycut", "left", "right", "up", "down"}) {
            error(word + " a 0 1 0;", 0);
            error("cut 5; " + word + " 6;", 7);
        }
        for (String word : new String[] {"l", "lef", "lefts", "lefx", "zeft", "r", "righ", "rights",
            "righx", "u", "ups", "ux", "xp", "d", "dow", "downs", "dowx", "say", "cut", "none",
            "upup"}) {
            error("say a 0 1 0 " + word + ";", 12);
            error("say a 0 1 0" + word + ";", 11);
        }
        // a WORD with 12 letters, with 13, and as long as the text can be
        s.run("load(\"say abcdefghijkl 0 1 0;\") = 1", "word(0, 7) = 12", "letter(0, 11) = 'l'");
        error("say abcdefghijklm 0 1 0;", 4);
        s.run("append(\"say \")", "156 x append(122)", "load() = -1004", "count(6) = 160");
        error("cut abcdefghijklm;", 4);
        error("say a abcdefghijklm 1 0;", 6);
        error("abcdefghijklm", 0);
    }

    private void otherCharacters() {
        for (int code = 1; code <= 255; code++) {
            boolean isOther = code != ' ' && code != ';' && !(code >= '0' && code <= '9')
                    && !(code >= 'a' && code <= 'z');
            if (isOther) {
                char sign = (char) code;
                load(sign + "cut 5;", -1000);
                load("cut 5;" + sign, -1006);
                load("cut" + sign + "5;", -1003);
                load("cut 1" + sign + ";", -1005);
                load("say " + sign + "a 0 1 0;", -1004);
                load("say a" + sign + " 0 1 0;", -1005);
                load("say a 0" + sign + "1 0;", -1007);
                load("say a 0 1 0" + sign + ";", -1011);
                load("say a 0 1 0 up" + sign + ";", -1014);
            }
        }
    }

    private void numbers() {
        // FRAME of a word: 0 to 2000, SPOKEN: 1 to 60, HELD: 0 to 60, FRAME of a shot: 1 to 3000
        load("say a 0 1 0;", 1);
        load("say a 2000 60 60;", 1);
        load("cut 1;", 1);
        load("cut 3000;", 1);
        error("say a 2001 1 0;", 6);
        error("say a 0 0 0;", 8);
        error("say a 0 61 0;", 8);
        error("say a 0 1 61;", 10);
        error("cut 0;", 4);
        error("cut 3001;", 4);
        // numbers that would wrap around to an allowed one: 2 to the 31st, 32nd, 33rd, 64th, and 5
        for (String number : new String[] {"2147483648", "2147483653", "4294967296", "4294967297",
            "4294967301", "8589934597", "18446744073709551616", "18446744073709551621",
            "99999999999999999999999999999999999999999"}) {
            error("say a " + number + " 1 0;", 6);
            error("say a 0 " + number + " 0;", 8);
            error("say a 0 1 " + number + ";", 10);
            error("cut " + number + ";", 4);
        }
        s.run("append(\"cut \")", "156 x append(57)", "load() = -1004", "count(6) = 160");
        s.run("append(\"say a \")", "154 x append(49)", "load() = -1006", "count(6) = 160");
        s.run("append(\"say a 0 \")", "152 x append(48)", "load() = -1008", "count(6) = 160");
        for (String number : new String[] {"00", "01", "05", "060", "000", "0000000001"}) {
            error("say a " + number + " 1 0;", 6);
            error("say a 0 " + number + " 0;", 8);
            error("say a 0 1 " + number + ";", 10);
            error("cut " + number + ";", 4);
        }
    }

    private void shotsThatAreThere() {
        s.of("Text", "FRAME of a shot that begins in a frame in which one begins already;");
        s.run("addShot(5)", "load(\"cut 5;\") = -1004", "clearText() = 6", "load(\"cut 4;cut 6;\") = 2",
                "load(\"cut 7; cut 6;\") = -1011", "count(2) = 3");
        s.run("load(\"cut 5;cut 5;\") = -1010", "count(2) = 0");
        s.run("load(\"cut 5;cut 6;cut 5;\") = -1016", "count(2) = 0");
        s.run("addShot(5)", "removeShot(5)", "load(\"cut 5;\") = 1", "shot(0) = 5");
        s.run("load(\"cut 3000;\") = 1", "load(\"cut 3000\") = -1004");
        s.run("load(\"cut 1;\") = 1", "load(\"cut 1\") = -1004");
    }

    private void asManyAsCanBe() {
        s.of("Text", "or the word \"say\" or \"cut\" if there are as many as there can be (with "
                + "those of the text before it).");
        s.run(ELEVEN_WORDS, "load(\"say a 0 1 0;\") = 1", "load(\"cut 5;\") = 1",
                "load(\" say b 0 1 0;\") = -1001", "count(0) = 12");
        s.run(ELEVEN_WORDS, "load(\"say a 0 1 0;say b 0 1 0;\") = -1012", "count(0) = 11");
        s.run(ELEVEN_WORDS, "load(\"say a 0 1 0;cut 5;say\") = -1018", "count(0) = 11",
                "count(2) = 0");
        // with as many words as there can be, another word than "say" is one in any case
        s.run(ELEVEN_WORDS, "addWord(1, 0, 1, 0, 0)", "load(\"says\") = -1000");
        s.run(Sentences.behind(List.of(NINE_SHOTS), "load(\"cut 10;\") = 1",
                "load(\"say a 0 1 0;\") = 1", "load(\" cut 11;\") = -1001", "count(2) = 10"));
        s.run(Sentences.behind(List.of(NINE_SHOTS), "load(\"cut 10;cut 11;\") = -1007",
                "count(2) = 9"));
        s.run(Sentences.behind(List.of(NINE_SHOTS), "load(\"cut 10;say a 0 1 0;cut\") = -1019",
                "count(2) = 9", "count(0) = 0"));
        // no room goes before a frame in which one begins, and before one out of range
        s.run(Sentences.behind(List.of(NINE_SHOTS), "addShot(10)", "load(\"cut 5;\") = -1000"));
        s.run(Sentences.behind(List.of(NINE_SHOTS), "addShot(10)", "load(\"cut 0;\") = -1000"));
        // one that was removed leaves room
        s.run(ELEVEN_WORDS, "addWord(1, 0, 1, 0, 0)", "removeWord(3)", "load(\"say a 0 1 0;\") = 1");
        s.run(Sentences.behind(List.of(NINE_SHOTS), "addShot(10)", "removeShot(3)",
                "load(\"cut 3;\") = 1"));
        full();
    }

    private void full() {
        StringBuilder words = new StringBuilder();
        for (int k = 0; k < 12; k++) {
            words.append("say ").append((char) ('a' + k)).append("0 1 0;");
        }
        s.run("load(\"" + words + "\") = 12", "count(0) = 12");
        s.run("load(\"" + words + "say\") = -1132", "count(0) = 0");
        StringBuilder shots = new StringBuilder();
        for (int k = 10; k < 20; k++) {
            shots.append("cut").append(k).append(';');
        }
        s.run("load(\"" + shots + "\") = 10", "count(2) = 10");
        s.run("load(\"" + shots + "cut\") = -1060", "count(2) = 0");
        // as many items as there can be: 10 shots and 8 words in 160 characters, then 4 words more
        List<String> rows = new ArrayList<>();
        rows.add("load(\"" + shots + words.substring(0, 88) + "\") = 18");
        rows.add("load(\"" + words.substring(88) + "\") = 4");
        rows.add("count(0) = 12");
        rows.add("count(2) = 10");
        rows.add("load(\"  \") = 0");
        s.run(rows);
    }

    private void lastToken() {
        s.of("Text", "(This holds for the last token of the text, too.)");
        error("x", 0);
        error("sa", 0);
        error("sayx", 0);
        error("5", 0);
        error("!", 0);
        error("say 5", 4);
        error("say abcdefghijklm", 4);
        error("say a 2001", 6);
        error("say a 01", 6);
        error("say a b", 6);
        error("say a 0 0", 8);
        error("say a 0 61", 8);
        error("say a 0 1 61", 10);
        error("say a 0 1 0 lef", 12);
        error("say a 0 1 0 5", 12);
        error("say a 0 1 0 up up", 15);
        error("cut 0", 4);
        error("cut 3001", 4);
        error("cut 05", 4);
        error("cut a", 4);
        error("cut 5 a", 6);
        error("cut 5;cut 5", 10);
        s.run("12 x addWord(1, 0, 1, 0, 0)", "load(\"say\") = -1000");
        s.run(Sentences.behind(List.of(NINE_SHOTS), "addShot(10)", "load(\"cut\") = -1000"));
    }

    private void tooShort() {
        s.of("Text", "If the text ends where another token must come, the error position is the "
                + "length of the text.");
        for (String text : new String[] {"say", "say a", "say abcdefghijkl", "say a 0", "say a 2000",
            "say a 0 1", "say a 0 60", "say a 0 1 0", "say a 0 1 60", "say a 0 1 0 left",
            "say a 0 1 0 right", "say a 0 1 0 up", "say a 0 1 0 down", "cut", "cut 1", "cut 3000",
            "cut 5;cut", "cut 5;say a 0 1 0;say"}) {
            error(text, text.length());
            error(text + " ", text.length() + 1);
            error("  " + text + "   ", text.length() + 5);
        }
        s.run("append(\"say a 1 2 3\")", "149 x append(32)", "load() = -1160", "count(6) = 160");
        s.run("157 x append(32)", "append(\"cut\")", "load() = -1160", "count(6) = 160");
        s.run("159 x append(32)", "append(59)", "load() = -1159", "count(6) = 160");
        s.run("11 x addWord(1, 0, 1, 0, 0)", "load(\"say\") = -1003");
        s.run(Sentences.behind(List.of(NINE_SHOTS), "load(\"cut\") = -1003"));
    }
}
