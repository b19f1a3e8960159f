import java.util.ArrayList;
import java.util.List;

/**
 * All that later calls can show of an object, in several views, since a view calls an object
 * itself and an object may be called only 512 times.
 */
final class Probes {
    static final int VIEWS = 9;
    /** No view calls an object more often than this. */
    static final int MOST_CALLS = 290;

    private static final int[] FRAMES = {0, 1, 5, 9, 10, 11, 20, 60, 110, 119, 2000};

    private final VoiceWords x;
    private final List<String> answers = new ArrayList<>();

    private Probes(VoiceWords x) {
        this.x = x;
    }

    /** The answers of the calls of a view, each with its call. */
    static List<String> view(int view, VoiceWords x) {
        Probes probes = new Probes(x);
        switch (view) {
            case 0 -> probes.properties();
            case 1 -> probes.letters();
            case 2 -> probes.places();
            case 3 -> probes.frames();
            case 4 -> probes.cells();
            case 5 -> probes.meetings();
            case 6 -> probes.history();
            case 7 -> probes.text();
            default -> probes.actions();
        }
        return probes.answers;
    }

    private void add(String call, int answer) {
        answers.add(call + " answers " + answer);
    }

    private void counts() {
        for (int what = 0; what <= 6; what++) {
            add("count(" + what + ")", x.count(what));
        }
    }

    private void properties() {
        counts();
        for (int word = 0; word <= 12; word++) {
            for (int what = 0; what <= 7; what++) {
                add("word(" + word + ", " + what + ")", x.word(word, what));
            }
        }
        for (int index = 0; index <= 10; index++) {
            add("shot(" + index + ")", x.shot(index));
        }
    }

    private void letters() {
        for (int word = 0; word < 12; word++) {
            for (int index = 0; index <= 12; index++) {
                add("letter(" + word + ", " + index + ")", x.letter(word, index));
            }
        }
    }

    private void places() {
        for (int word = 0; word < 12; word++) {
            for (int frame : FRAMES) {
                for (int what = 0; what <= 1; what++) {
                    add("where(" + word + ", " + frame + ", " + what + ")",
                            x.where(word, frame, what));
                }
            }
        }
    }

    private void frames() {
        for (int frame = 0; frame < 190; frame += 2) {
            add("onScreen(" + frame + ")", x.onScreen(frame));
            add("filled(" + frame + ")", x.filled(frame));
            add("pace(" + frame + ")", x.pace(frame));
        }
    }

    private void cells() {
        for (int row = 0; row < 7; row++) {
            for (int column = 0; column < 40; column++) {
                add("written(" + row + ", " + column + ", 10)", x.written(row, column, 10));
            }
        }
    }

    private void meetings() {
        for (int a = 0; a < 12; a++) {
            for (int b = 0; b < 12; b++) {
                add("meeting(" + a + ", " + b + ")", x.meeting(a, b));
            }
            add("earliest(" + a + ", 3, 10)", x.earliest(a, 3, 10));
        }
    }

    private void history() {
        for (int time = 0; time < 6; time++) {
            add("undo()", x.undo());
            counts();
            for (int word = 0; word < 12; word++) {
                add("word(" + word + ", 0)", x.word(word, 0));
                add("word(" + word + ", 3)", x.word(word, 3));
                add("word(" + word + ", 5)", x.word(word, 5));
            }
            add("shot(0)", x.shot(0));
            add("shot(1)", x.shot(1));
        }
    }

    private void text() {
        add("load()", x.load());
        counts();
        for (int word = 0; word < 12; word++) {
            add("letter(" + word + ", 0)", x.letter(word, 0));
            add("word(" + word + ", 0)", x.word(word, 0));
        }
        add("clearText()", x.clearText());
        for (int time = 0; time < 161; time++) {
            add("append(32)", x.append(32));
        }
    }

    private void actions() {
        add("take(0)", x.take(0));
        add("put(1, 3, 10)", x.put(1, 3, 10));
        add("addWord(4, 33, 9, 9, 1)", x.addWord(4, 33, 9, 9, 1));
        add("addShot(34)", x.addShot(34));
        add("putAll()", x.putAll());
        for (int word = 0; word < 12; word++) {
            for (int what = 0; what <= 7; what++) {
                add("word(" + word + ", " + what + ")", x.word(word, what));
            }
            add("letter(" + word + ", 0)", x.letter(word, 0));
        }
        add("setWord(0, 0, 7)", x.setWord(0, 0, 7));
        add("removeWord(0)", x.removeWord(0));
        add("removeShot(34)", x.removeShot(34));
        add("setSpeed(200)", x.setSpeed(200));
        counts();
        add("undo()", x.undo());
        counts();
    }
}
