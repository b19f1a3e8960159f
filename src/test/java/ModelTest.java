import java.util.Random;

/** All promises: the same runs of calls, of fixed seeds, on the class and on the model. */
final class ModelTest {
    private static final int[] ODD = {Integer.MIN_VALUE, -1001, -1, 0, 1, 2, 7, 8, 11, 12, 13, 39,
        40, 49, 50, 60, 61, 255, 256, 400, 401, 2000, 2001, 3000, 3001, 4000, 4001,
        Integer.MAX_VALUE};

    private final Check check;
    private final Random random;
    private final VoiceWords x = new VoiceWords();
    private final Model model = new Model();
    private final String run;
    /** How far frames, columns and lanes spread in this run: narrow runs have more meetings. */
    private final int frames;
    private final int firstFrame;
    private final int columns;
    private final int lanes;
    private int calls;

    private ModelTest(Check check, int seed) {
        this.check = check;
        random = new Random(seed);
        run = "run " + seed + ", ";
        frames = new int[] {5, 40, 150, 2001}[random.nextInt(4)];
        firstFrame = frames < 2001 && random.nextInt(4) == 0 ? 2001 - frames : 0;
        columns = new int[] {3, 12, 40}[random.nextInt(3)];
        lanes = 1 + random.nextInt(8);
    }

    public static void main(String[] args) {
        Check check = new Check("ModelTest");
        int runs = args.length > 1 ? Integer.parseInt(args[1]) : 400;
        int first = args.length > 0 ? Integer.parseInt(args[0]) : 1;
        for (int seed = first; seed < first + runs && check.isClean(); seed++) {
            new ModelTest(check, seed).play();
        }
        check.finish();
    }

    private void play() {
        int words = random.nextInt(13);
        for (int k = 0; k < words; k++) {
            addWord();
        }
        while (calls < 500 && check.isClean()) {
            int kind = random.nextInt(100);
            if (kind < 45) {
                act(kind);
            } else if (kind < 55) {
                readText();
            } else {
                look(kind);
            }
        }
    }

    private void due(String call, int got, int want) {
        calls++;
        check.due(run + "call " + calls + ": " + call, got, want);
    }

    private int some(int low, int high) {
        if (random.nextInt(40) == 0) {
            return ODD[random.nextInt(ODD.length)];
        }
        return low + random.nextInt(high - low + 1);
    }

    private int someFrame() {
        return firstFrame + some(0, frames - 1);
    }

    private int someLaterFrame() {
        return firstFrame + some(0, frames + 150);
    }

    private int someWord() {
        return some(0, Math.max(0, model.count(0) - 1));
    }

    private int someColumn() {
        return some(0, columns - 1);
    }

    private int someLane() {
        return some(0, lanes - 1);
    }

    private void addWord() {
        int length = some(1, 12);
        int frame = someFrame();
        int spoken = some(1, random.nextBoolean() ? 60 : 6);
        int held = some(0, random.nextBoolean() ? 60 : 6);
        int way = some(0, 4);
        due("addWord(" + length + ", " + frame + ", " + spoken + ", " + held + ", " + way + ")",
                x.addWord(length, frame, spoken, held, way),
                model.addWord(length, frame, spoken, held, way));
    }

    private void act(int kind) {
        int word = someWord();
        if (kind < 5) {
            addWord();
        } else if (kind < 7) {
            due("removeWord(" + word + ")", x.removeWord(word), model.removeWord(word));
        } else if (kind < 11) {
            int what = some(0, 3);
            int value = what == 0 ? someFrame() : some(0, what == 3 ? 4 : 60);
            due("setWord(" + word + ", " + what + ", " + value + ")",
                    x.setWord(word, what, value), model.setWord(word, what, value));
        } else if (kind < 14) {
            int frame = someLaterFrame();
            due("addShot(" + frame + ")", x.addShot(frame), model.addShot(frame));
        } else if (kind < 17) {
            int present = model.shot(random.nextInt(3));
            int frame = random.nextInt(4) == 0 ? someLaterFrame() : present;
            due("removeShot(" + frame + ")", x.removeShot(frame), model.removeShot(frame));
        } else if (kind < 20) {
            int percent = some(50, 400);
            due("setSpeed(" + percent + ")", x.setSpeed(percent), model.setSpeed(percent));
        } else if (kind < 32) {
            int lane = someLane();
            int column = someColumn();
            due("put(" + word + ", " + lane + ", " + column + ")",
                    x.put(word, lane, column), model.put(word, lane, column));
        } else if (kind < 36) {
            due("take(" + word + ")", x.take(word), model.take(word));
        } else if (kind < 39) {
            due("putAll()", x.putAll(), model.putAll());
        } else {
            due("undo()", x.undo(), model.undo());
        }
    }

    private void readText() {
        if (random.nextInt(3) == 0) {
            due("clearText()", x.clearText(), model.clearText());
        }
        String text = random.nextInt(6) == 0 ? spoilt(someText()) : someText();
        for (int i = 0; i < text.length(); i++) {
            int character = random.nextInt(400) == 0 ? some(0, 256) : text.charAt(i);
            due("append(" + character + ")", x.append(character), model.append(character));
        }
        due("load()", x.load(), model.load());
        if (random.nextInt(4) != 0) {
            due("clearText()", x.clearText(), model.clearText());
        }
    }

    private String someText() {
        StringBuilder text = new StringBuilder();
        int items = random.nextInt(3);
        for (int i = 0; i < items; i++) {
            space(text, 0);
            if (random.nextInt(3) == 0) {
                text.append("cut");
                space(text, 0);
                text.append(someLaterFrame() & 8191);
            } else {
                text.append("say");
                space(text, 1);
                int letters = 1 + random.nextInt(random.nextInt(20) == 0 ? 14 : 6);
                for (int k = 0; k < letters; k++) {
                    text.append((char) ('a' + random.nextInt(26)));
                }
                space(text, 0);
                text.append(someFrame() & 8191);
                space(text, 1);
                text.append(some(1, 60) & 127);
                space(text, 1);
                text.append(some(0, 60) & 127);
                space(text, 0);
                text.append(new String[] {"", "left", "right", "up", "down"}[random.nextInt(5)]);
            }
            space(text, 0);
            text.append(';');
        }
        return text.toString();
    }

    private void space(StringBuilder text, int least) {
        int spaces = least + (random.nextInt(4) == 0 ? random.nextInt(3) : 0);
        for (int i = 0; i < spaces; i++) {
            text.append(' ');
        }
    }

    private String spoilt(String text) {
        int at = random.nextInt(text.length() + 1);
        String sign = String.valueOf(" ;0a1sZ\t{`:/\u00ff".charAt(random.nextInt(13)));
        switch (random.nextInt(3)) {
            case 0:
                return text.substring(0, at);
            case 1:
                return text.substring(0, at) + sign + text.substring(at);
            default:
                return at == text.length() ? text + sign
                        : text.substring(0, at) + text.substring(at + 1);
        }
    }

    private void look(int kind) {
        int word = someWord();
        int frame = someLaterFrame();
        int what = some(0, 7);
        if (kind < 59) {
            due("count(" + what + ")", x.count(what), model.count(what));
        } else if (kind < 64) {
            due("word(" + word + ", " + what + ")", x.word(word, what), model.word(word, what));
        } else if (kind < 66) {
            due("letter(" + word + ", " + what + ")",
                    x.letter(word, what), model.letter(word, what));
        } else if (kind < 68) {
            due("shot(" + what + ")", x.shot(what), model.shot(what));
        } else if (kind < 74) {
            int side = some(0, 1);
            due("where(" + word + ", " + frame + ", " + side + ")",
                    x.where(word, frame, side), model.where(word, frame, side));
        } else if (kind < 80) {
            int row = someLane();
            int column = some(0, 39);
            due("written(" + row + ", " + column + ", " + frame + ")",
                    x.written(row, column, frame), model.written(row, column, frame));
        } else if (kind < 84) {
            due("onScreen(" + frame + ")", x.onScreen(frame), model.onScreen(frame));
        } else if (kind < 90) {
            int other = someWord();
            due("meeting(" + word + ", " + other + ")",
                    x.meeting(word, other), model.meeting(word, other));
        } else if (kind < 93) {
            due("pace(" + frame + ")", x.pace(frame), model.pace(frame));
        } else if (kind < 96) {
            int lane = someLane();
            int column = someColumn();
            due("earliest(" + word + ", " + lane + ", " + column + ")",
                    x.earliest(word, lane, column), model.earliest(word, lane, column));
        } else {
            due("filled(" + frame + ")", x.filled(frame), model.filled(frame));
        }
    }
}
