/**
 * Words that appear in a frame, are spoken and held at a place, and leave the screen,
 * with the shots that clear it, a text they can be read from, and an undo of five states.
 */
public final class VoiceWords {

    public static final int INVALID_ARGUMENT = -11;
    public static final int ILLEGAL_STATE = -12;
    public static final int CAPACITY_EXCEEDED = -13;
    public static final int NONE = -19;

    private static final int ROWS = 8;
    private static final int COLUMNS = 40;
    private static final int MAX_WORDS = 12;
    private static final int MAX_LETTERS = 12;
    private static final int MAX_SHOTS = 10;
    private static final int MAX_TEXT = 160;
    private static final int MAX_STATES = 5;

    private static final int LAST_FIRST_FRAME = 2000;
    private static final int LAST_SHOT_FRAME = 3000;
    private static final int LAST_ASKED_FRAME = 4000;
    private static final int MAX_SPOKEN = 60;
    private static final int MAX_HELD = 60;
    private static final int MIN_PERCENT = 50;
    private static final int MAX_PERCENT = 400;
    private static final int FIRST_PERCENT = 100;

    /** The properties of a word by the numbers that setWord and word give them. */
    private static final int FIRST_FRAME = 0;
    private static final int SPOKEN = 1;
    private static final int HELD = 2;
    private static final int WAY = 3;
    private static final int LANE = 4;
    private static final int COLUMN = 5;
    private static final int LETTERS = 7;

    private static final int NO_WAY = 0;
    private static final int LEFT = 1;
    private static final int RIGHT = 2;
    private static final int UP = 3;
    private static final int DOWN = 4;

    private static final int OFF_SCREEN = -1000;
    private static final int TEXT_ERROR = -1000;

    /** At half a cell a frame, the slowest speed, a word leaves all 40 columns in 80 frames. */
    private static final int MAX_STEPS = 80;

    private static final int[] LANE_ORDER = {3, 4, 2, 5, 1, 6, 0, 7};

    private final Scene scene;
    private final Scene draft;
    private final Scene[] history;
    private int states;
    private final Text text;

    public VoiceWords() {
        scene = new Scene();
        draft = new Scene();
        history = new Scene[MAX_STATES];
        for (int i = 0; i < MAX_STATES; i++) {
            history[i] = new Scene();
        }
        states = 0;
        text = new Text();
    }

    // ---- words and shots

    public int addWord(int length, int frame, int spoken, int held, int way) {
        if (!isBetween(length, 1, MAX_LETTERS) || !isAllowed(FIRST_FRAME, frame)
                || !isAllowed(SPOKEN, spoken) || !isAllowed(HELD, held) || !isAllowed(WAY, way)) {
            return INVALID_ARGUMENT;
        }
        if (!scene.hasRoomForWord()) {
            return CAPACITY_EXCEEDED;
        }
        record();
        scene.appendWord(length, frame, spoken, held, way);
        return scene.wordCount - 1;
    }

    public int removeWord(int word) {
        if (!scene.hasWord(word)) {
            return INVALID_ARGUMENT;
        }
        record();
        scene.deleteWord(word);
        return scene.wordCount;
    }

    public int setWord(int word, int what, int value) {
        if (!scene.hasWord(word) || !isAllowed(what, value)) {
            return INVALID_ARGUMENT;
        }
        record();
        Word changed = scene.words[word];
        int previous = changed.property(what);
        changed.setProperty(what, value);
        changed.isPut = false;
        return previous;
    }

    public int addShot(int frame) {
        if (!isBetween(frame, 1, LAST_SHOT_FRAME)) {
            return INVALID_ARGUMENT;
        }
        if (scene.hasShotIn(frame)) {
            return ILLEGAL_STATE;
        }
        if (!scene.hasRoomForShot()) {
            return CAPACITY_EXCEEDED;
        }
        record();
        scene.insertShot(frame);
        return scene.shotCount;
    }

    public int removeShot(int frame) {
        if (!isBetween(frame, 1, LAST_SHOT_FRAME)) {
            return INVALID_ARGUMENT;
        }
        if (!scene.hasShotIn(frame)) {
            return ILLEGAL_STATE;
        }
        record();
        scene.deleteShot(frame);
        return scene.shotCount;
    }

    public int setSpeed(int percent) {
        if (!isBetween(percent, MIN_PERCENT, MAX_PERCENT)) {
            return INVALID_ARGUMENT;
        }
        record();
        int previous = scene.percent;
        scene.percent = percent;
        return previous;
    }

    public int append(int character) {
        if (!isBetween(character, 1, 255)) {
            return INVALID_ARGUMENT;
        }
        if (text.length >= MAX_TEXT) {
            return CAPACITY_EXCEEDED;
        }
        text.characters[text.length] = character;
        text.length++;
        return text.length;
    }

    public int clearText() {
        int previous = text.length;
        text.length = 0;
        return previous;
    }

    public int load() {
        // An error may come after items that were fine, so the items go to a draft first.
        draft.copyFrom(scene);
        int items = text.readInto(draft);
        if (items < 0) {
            return items;
        }
        record();
        scene.copyFrom(draft);
        text.length = 0;
        return items;
    }

    // ---- putting words

    public int put(int word, int lane, int column) {
        if (!isPossiblePlace(word, lane, column)) {
            return INVALID_ARGUMENT;
        }
        Word moved = scene.words[word];
        if (!scene.isFree(word, moved.frame, lane, column)) {
            return ILLEGAL_STATE;
        }
        record();
        moved.putAt(lane, column);
        return scene.countPut();
    }

    public int take(int word) {
        if (!scene.hasWord(word)) {
            return INVALID_ARGUMENT;
        }
        if (!scene.words[word].isPut) {
            return ILLEGAL_STATE;
        }
        record();
        scene.words[word].isPut = false;
        return scene.countPut();
    }

    public int putAll() {
        record();
        scene.takeAllWords();
        scene.sortForPutting();
        for (int i = 0; i < scene.wordCount; i++) {
            scene.putAtFirstPlace(scene.order[i]);
        }
        return scene.countPut();
    }

    public int undo() {
        if (states < 1) {
            return ILLEGAL_STATE;
        }
        states--;
        scene.copyFrom(history[states]);
        return states;
    }

    // ---- looking

    public int count(int what) {
        switch (what) {
            case 0:
                return scene.wordCount;
            case 1:
                return scene.countPut();
            case 2:
                return scene.shotCount;
            case 3:
                return scene.percent;
            case 4:
                return scene.countMeetingPairs();
            case 5:
                return states;
            case 6:
                return text.length;
            default:
                return INVALID_ARGUMENT;
        }
    }

    public int word(int word, int what) {
        if (!scene.hasWord(word) || !isBetween(what, FIRST_FRAME, LETTERS)) {
            return INVALID_ARGUMENT;
        }
        Word asked = scene.words[word];
        if (what == LETTERS) {
            return asked.length;
        }
        if (what <= WAY) {
            return asked.property(what);
        }
        if (!asked.isPut) {
            return NONE;
        }
        switch (what) {
            case LANE:
                return asked.lane;
            case COLUMN:
                return asked.column;
            default:
                return scene.goneFrom(asked) - 1;
        }
    }

    public int letter(int word, int index) {
        if (!scene.hasWord(word) || index < 0) {
            return INVALID_ARGUMENT;
        }
        Word asked = scene.words[word];
        return index < asked.length ? asked.letters[index] : NONE;
    }

    public int shot(int index) {
        if (index < 0) {
            return INVALID_ARGUMENT;
        }
        return index < scene.shotCount ? scene.shots[index] : NONE;
    }

    public int where(int word, int frame, int what) {
        if (!scene.hasWord(word) || !isAskedFrame(frame) || !isBetween(what, 0, 1)) {
            return INVALID_ARGUMENT;
        }
        Word asked = scene.words[word];
        if (!scene.isVisible(asked, frame)) {
            return NONE;
        }
        if (what == 0) {
            return scene.rowOf(asked, frame);
        }
        int column = scene.columnOf(asked, frame);
        return isBetween(column, 0, COLUMNS - 1) ? column : OFF_SCREEN + column;
    }

    public int written(int row, int column, int frame) {
        if (!isBetween(row, 0, ROWS - 1) || !isBetween(column, 0, COLUMNS - 1)
                || !isAskedFrame(frame)) {
            return INVALID_ARGUMENT;
        }
        return scene.characterIn(row, column, frame);
    }

    public int onScreen(int frame) {
        if (!isAskedFrame(frame)) {
            return INVALID_ARGUMENT;
        }
        return scene.visibleSet(frame);
    }

    public int meeting(int a, int b) {
        if (!scene.hasWord(a) || !scene.hasWord(b) || a == b) {
            return INVALID_ARGUMENT;
        }
        return scene.firstMeeting(scene.words[a], scene.words[b]);
    }

    // ---- questions, which change nothing

    public int pace(int frame) {
        if (!isAskedFrame(frame)) {
            return INVALID_ARGUMENT;
        }
        return scene.readingPace(frame);
    }

    public int earliest(int word, int lane, int column) {
        if (!isPossiblePlace(word, lane, column)) {
            return INVALID_ARGUMENT;
        }
        for (int frame = scene.words[word].frame; frame <= LAST_FIRST_FRAME; frame++) {
            if (scene.isFree(word, frame, lane, column)) {
                return frame;
            }
        }
        return NONE;
    }

    public int filled(int frame) {
        if (!isAskedFrame(frame)) {
            return INVALID_ARGUMENT;
        }
        int cells = 0;
        for (int row = 0; row < ROWS; row++) {
            cells += Long.bitCount(scene.cellsInRow(row, frame));
        }
        return cells;
    }

    // ---- helpers

    /** Keeps the present state in the history; an action calls it before it changes anything. */
    private void record() {
        if (states >= MAX_STATES) {
            dropOldestState();
        }
        history[states].copyFrom(scene);
        states++;
    }

    private void dropOldestState() {
        // The dropped scene comes to the end to be written over: scenes are made only once.
        Scene oldest = history[0];
        for (int i = 1; i < MAX_STATES; i++) {
            history[i - 1] = history[i];
        }
        history[MAX_STATES - 1] = oldest;
        states = MAX_STATES - 1;
    }

    private boolean isPossiblePlace(int word, int lane, int column) {
        return scene.hasWord(word) && isBetween(lane, 0, ROWS - 1)
                && isBetween(column, 0, scene.words[word].lastColumn());
    }

    private static boolean isBetween(int value, int low, int high) {
        return value >= low && value <= high;
    }

    private static boolean isAskedFrame(int frame) {
        return isBetween(frame, 0, LAST_ASKED_FRAME);
    }

    /** Whether there is such a property that can be set, and the value is in its range. */
    private static boolean isAllowed(int what, int value) {
        switch (what) {
            case FIRST_FRAME:
                return isBetween(value, 0, LAST_FIRST_FRAME);
            case SPOKEN:
                return isBetween(value, 1, MAX_SPOKEN);
            case HELD:
                return isBetween(value, 0, MAX_HELD);
            case WAY:
                return isBetween(value, NO_WAY, DOWN);
            default:
                return false;
        }
    }

    /** A word: its letters, its frames, its way out, and its place if it is put. */
    private static final class Word {
        final int[] letters = new int[MAX_LETTERS];
        int length;
        int frame;
        int spoken;
        int held;
        int way;
        boolean isPut;
        int lane;
        int column;

        void copyFrom(Word other) {
            System.arraycopy(other.letters, 0, letters, 0, MAX_LETTERS);
            length = other.length;
            frame = other.frame;
            spoken = other.spoken;
            held = other.held;
            way = other.way;
            isPut = other.isPut;
            lane = other.lane;
            column = other.column;
        }

        int property(int what) {
            switch (what) {
                case FIRST_FRAME:
                    return frame;
                case SPOKEN:
                    return spoken;
                case HELD:
                    return held;
                default:
                    return way;
            }
        }

        void setProperty(int what, int value) {
            switch (what) {
                case FIRST_FRAME:
                    frame = value;
                    break;
                case SPOKEN:
                    spoken = value;
                    break;
                case HELD:
                    held = value;
                    break;
                default:
                    way = value;
                    break;
            }
        }

        void putAt(int newLane, int newColumn) {
            isPut = true;
            lane = newLane;
            column = newColumn;
        }

        /** The first frame in which it does not stand at its place any more. */
        int leavesIn() {
            return frame + spoken + held;
        }

        /** How many frames on its way out it has gone in a frame; 0 or less at its place. */
        int stepsIn(int askedFrame) {
            return askedFrame + 1 - (frame + spoken + held);
        }

        boolean keepsLane() {
            return way != UP && way != DOWN;
        }

        int lastColumn() {
            return COLUMNS - length;
        }

        /** By how many cells it has to move until none of its letters is on the screen. */
        int cellsToLeave() {
            switch (way) {
                case LEFT:
                    return column + length;
                case RIGHT:
                    return COLUMNS - column;
                case UP:
                    return lane + 1;
                default:
                    return ROWS - lane;
            }
        }
    }

    /** A state: the words, the shots by ascending frames, and the speed. */
    private static final class Scene {
        final Word[] words = new Word[MAX_WORDS];
        int wordCount;
        final int[] shots = new int[MAX_SHOTS];
        int shotCount;
        int percent = FIRST_PERCENT;
        /** A word that stands where another one is tried; no part of the state. */
        private final Word trial = new Word();
        /** The order in which all words are put; no part of the state. */
        final int[] order = new int[MAX_WORDS];

        Scene() {
            for (int i = 0; i < MAX_WORDS; i++) {
                words[i] = new Word();
            }
        }

        void copyFrom(Scene other) {
            for (int i = 0; i < other.wordCount; i++) {
                words[i].copyFrom(other.words[i]);
            }
            wordCount = other.wordCount;
            System.arraycopy(other.shots, 0, shots, 0, MAX_SHOTS);
            shotCount = other.shotCount;
            percent = other.percent;
        }

        boolean hasWord(int index) {
            return index >= 0 && index < wordCount;
        }

        boolean hasRoomForWord() {
            return wordCount < MAX_WORDS;
        }

        boolean hasRoomForShot() {
            return shotCount < MAX_SHOTS;
        }

        /** Adds a word with the first letters of the alphabet; there must be room for it. */
        Word appendWord(int length, int frame, int spoken, int held, int way) {
            Word added = words[wordCount];
            for (int i = 0; i < length; i++) {
                added.letters[i] = 'a' + i;
            }
            added.length = length;
            added.frame = frame;
            added.spoken = spoken;
            added.held = held;
            added.way = way;
            added.isPut = false;
            wordCount++;
            return added;
        }

        void deleteWord(int index) {
            // The removed word comes behind the others to be written over by the next one.
            Word removed = words[index];
            for (int i = index + 1; i < wordCount; i++) {
                words[i - 1] = words[i];
            }
            wordCount--;
            words[wordCount] = removed;
        }

        boolean hasShotIn(int frame) {
            for (int i = 0; i < shotCount; i++) {
                if (shots[i] == frame) {
                    return true;
                }
            }
            return false;
        }

        /** Adds a shot in its order; there must be room for it. */
        void insertShot(int frame) {
            int at = shotCount;
            while (at > 0 && shots[at - 1] > frame) {
                shots[at] = shots[at - 1];
                at--;
            }
            shots[at] = frame;
            shotCount++;
        }

        void deleteShot(int frame) {
            int kept = 0;
            for (int i = 0; i < shotCount; i++) {
                if (shots[i] != frame) {
                    shots[kept] = shots[i];
                    kept++;
                }
            }
            shotCount = kept;
        }

        int countPut() {
            int put = 0;
            for (int i = 0; i < wordCount; i++) {
                if (words[i].isPut) {
                    put++;
                }
            }
            return put;
        }

        int countMeetingPairs() {
            int pairs = 0;
            for (int a = 0; a < wordCount; a++) {
                for (int b = a + 1; b < wordCount; b++) {
                    if (firstMeeting(words[a], words[b]) != NONE) {
                        pairs++;
                    }
                }
            }
            return pairs;
        }

        // ---- where a word is

        /** By how many cells a word has moved in so many steps; before the first one it stands. */
        private int cellsMoved(int steps) {
            float speed = (float) percent / 100.0f;
            return steps < 1 ? 0 : (int) ((float) steps * speed);
        }

        int rowOf(Word word, int frame) {
            switch (word.way) {
                case UP:
                    return word.lane - cellsMoved(word.stepsIn(frame));
                case DOWN:
                    return word.lane + cellsMoved(word.stepsIn(frame));
                default:
                    return word.lane;
            }
        }

        int columnOf(Word word, int frame) {
            switch (word.way) {
                case LEFT:
                    return word.column - cellsMoved(word.stepsIn(frame));
                case RIGHT:
                    return word.column + cellsMoved(word.stepsIn(frame));
                default:
                    return word.column;
            }
        }

        /** The first frame in which a word that is put is gone. */
        int goneFrom(Word word) {
            int frame = word.leavesIn();
            if (word.way != NO_WAY) {
                frame += stepsToLeave(word) - 1;
            }
            for (int i = 0; i < shotCount; i++) {
                if (shots[i] > word.frame) {
                    return Math.min(frame, shots[i]);
                }
            }
            return frame;
        }

        private int stepsToLeave(Word word) {
            int cells = word.cellsToLeave();
            for (int steps = 1; steps < MAX_STEPS; steps++) {
                if (cellsMoved(steps) >= cells) {
                    return steps;
                }
            }
            return MAX_STEPS;
        }

        boolean isVisible(Word word, int frame) {
            return word.isPut && frame >= word.frame && frame < goneFrom(word);
        }

        int visibleSet(int frame) {
            int set = 0;
            for (int i = 0; i < wordCount; i++) {
                if (isVisible(words[i], frame)) {
                    set |= 1 << i;
                }
            }
            return set;
        }

        int characterIn(int row, int column, int frame) {
            for (int i = 0; i < wordCount; i++) {
                Word word = words[i];
                if (isVisible(word, frame) && rowOf(word, frame) == row) {
                    int index = column - columnOf(word, frame);
                    if (index >= 0 && index < word.length) {
                        return word.letters[index];
                    }
                }
            }
            return NONE;
        }

        /** The set of the columns of a row in which a letter stands. */
        long cellsInRow(int row, int frame) {
            long cells = 0L;
            for (int i = 0; i < wordCount; i++) {
                Word word = words[i];
                if (isVisible(word, frame) && rowOf(word, frame) == row) {
                    int first = columnOf(word, frame);
                    int end = Math.min(first + word.length, COLUMNS);
                    for (int column = Math.max(first, 0); column < end; column++) {
                        cells |= 1L << column;
                    }
                }
            }
            return cells;
        }

        int readingPace(int frame) {
            float sum = 0.0f;
            for (int i = 0; i < wordCount; i++) {
                Word word = words[i];
                if (word.spoken >= 1 && frame >= word.frame && frame < word.frame + word.spoken) {
                    sum += (float) word.length / (float) word.spoken;
                }
            }
            return (int) (sum * 25.0f);
        }

        // ---- which words meet

        /** The first frame in which two words meet, or NONE; a word that is not put meets none. */
        int firstMeeting(Word a, Word b) {
            if (!a.isPut || !b.isPut) {
                return NONE;
            }
            if (a.lane != b.lane && a.keepsLane() && b.keepsLane()) {
                return NONE;
            }
            int first = Math.max(a.frame, b.frame);
            int end = Math.min(goneFrom(a), goneFrom(b));
            if (first < end && shareCell(a, b, first)) {
                return first;
            }
            // As long as both stand at their places, the first frame has answered for the others.
            int next = Math.max(first + 1, Math.min(a.leavesIn(), b.leavesIn()));
            for (int frame = next; frame < end; frame++) {
                if (shareCell(a, b, frame)) {
                    return frame;
                }
            }
            return NONE;
        }

        /** Whether two words that are both on the screen have letters in the same cell of it. */
        private boolean shareCell(Word a, Word b, int frame) {
            if (rowOf(a, frame) != rowOf(b, frame)) {
                return false;
            }
            int columnA = columnOf(a, frame);
            int columnB = columnOf(b, frame);
            int first = Math.max(0, Math.max(columnA, columnB));
            int end = Math.min(COLUMNS, Math.min(columnA + a.length, columnB + b.length));
            return first < end;
        }

        /** Whether a word, beginning in a frame, would meet no other one at a place. */
        boolean isFree(int index, int frame, int lane, int column) {
            trial.copyFrom(words[index]);
            trial.frame = frame;
            trial.putAt(lane, column);
            for (int i = 0; i < wordCount; i++) {
                if (i != index && firstMeeting(trial, words[i]) != NONE) {
                    return false;
                }
            }
            return true;
        }

        // ---- putting all words

        void takeAllWords() {
            for (int i = 0; i < wordCount; i++) {
                words[i].isPut = false;
            }
        }

        /** Sorts the numbers of the words, so that words that come alike keep theirs ascending. */
        void sortForPutting() {
            for (int i = 0; i < wordCount; i++) {
                int at = i;
                while (at > 0 && comesBefore(words[i], words[order[at - 1]])) {
                    order[at] = order[at - 1];
                    at--;
                }
                order[at] = i;
            }
        }

        private static boolean comesBefore(Word a, Word b) {
            return a.frame < b.frame || a.frame == b.frame && a.length > b.length;
        }

        /** Puts a word at the first free place of its order; without one it stays as it is. */
        void putAtFirstPlace(int index) {
            Word word = words[index];
            int last = word.lastColumn();
            int middle = last / 2;
            for (int i = 0; i < LANE_ORDER.length; i++) {
                // The turns swing around the middle; the smaller of two columns comes first.
                for (int turn = 0; turn <= last + 1; turn++) {
                    int column = turn % 2 == 0 ? middle + turn / 2 : middle - (turn + 1) / 2;
                    if (column >= 0 && isFree(index, word.frame, LANE_ORDER[i], column)) {
                        word.putAt(LANE_ORDER[i], column);
                        return;
                    }
                }
            }
        }
    }

    /** The text, and the reading of its items token by token. */
    private static final class Text {
        private static final int END = 0;
        private static final int NAME = 1;
        private static final int NUMBER = 2;
        private static final int SEMICOLON = 3;
        private static final int OTHER = 4;

        final int[] characters = new int[MAX_TEXT];
        int length;

        /** The present token: what it is, where it begins, and where it has ended. */
        private int kind;
        private int start;
        private int end;

        /** Adds the items to a scene; answers their number, or -1000 minus the error position. */
        int readInto(Scene target) {
            end = 0;
            for (int items = 0; items <= MAX_WORDS + MAX_SHOTS; items++) {
                step();
                if (kind == END) {
                    return items;
                }
                if (!readItem(target)) {
                    return TEXT_ERROR - start;
                }
            }
            return TEXT_ERROR - start;
        }

        /** When it answers false, the present token is the one that is not allowed. */
        private boolean readItem(Scene target) {
            if (isName("say") && target.hasRoomForWord()) {
                return readWord(target);
            }
            if (isName("cut") && target.hasRoomForShot()) {
                return readShot(target);
            }
            return false;
        }

        private boolean readWord(Scene target) {
            step();
            int nameStart = start;
            int nameLength = end - start;
            if (kind != NAME || nameLength > MAX_LETTERS) {
                return false;
            }
            step();
            int frame = numberOf();
            if (!isAllowed(FIRST_FRAME, frame)) {
                return false;
            }
            step();
            int spoken = numberOf();
            if (!isAllowed(SPOKEN, spoken)) {
                return false;
            }
            step();
            int held = numberOf();
            if (!isAllowed(HELD, held)) {
                return false;
            }
            step();
            int way = wayOf();
            if (way != NO_WAY) {
                step();
            }
            if (kind != SEMICOLON) {
                return false;
            }
            Word added = target.appendWord(nameLength, frame, spoken, held, way);
            System.arraycopy(characters, nameStart, added.letters, 0, nameLength);
            return true;
        }

        private boolean readShot(Scene target) {
            step();
            int frame = numberOf();
            if (!isBetween(frame, 1, LAST_SHOT_FRAME) || target.hasShotIn(frame)) {
                return false;
            }
            step();
            if (kind != SEMICOLON) {
                return false;
            }
            target.insertShot(frame);
            return true;
        }

        /** Goes on to the next token; at the end of the text, it begins and ends there. */
        private void step() {
            start = end;
            while (start < length && characters[start] == ' ') {
                start++;
            }
            end = start;
            kind = kindAt(start);
            if (kind == NAME || kind == NUMBER) {
                while (end < length && kindAt(end) == kind) {
                    end++;
                }
            } else if (kind != END) {
                end++;
            }
        }

        private int kindAt(int index) {
            if (index >= length) {
                return END;
            }
            int character = characters[index];
            if (character >= 'a' && character <= 'z') {
                return NAME;
            }
            if (character >= '0' && character <= '9') {
                return NUMBER;
            }
            return character == ';' ? SEMICOLON : OTHER;
        }

        private boolean isName(String name) {
            if (kind != NAME || end - start != name.length()) {
                return false;
            }
            for (int i = 0; i < name.length(); i++) {
                if (characters[start + i] != name.charAt(i)) {
                    return false;
                }
            }
            return true;
        }

        private int wayOf() {
            if (isName("left")) {
                return LEFT;
            }
            if (isName("right")) {
                return RIGHT;
            }
            if (isName("up")) {
                return UP;
            }
            return isName("down") ? DOWN : NO_WAY;
        }

        /** The value of a number, or -1, which is in no range, for any other token. */
        private int numberOf() {
            if (kind != NUMBER || characters[start] == '0' && end - start > 1) {
                return -1;
            }
            int value = 0;
            for (int i = start; i < end; i++) {
                value = value * 10 + (characters[i] - '0');
                if (value > LAST_ASKED_FRAME) {
                    // Greater than every range: reading on could only make it overflow.
                    return -1;
                }
            }
            return value;
        }
    }
}
