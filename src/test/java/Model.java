import java.util.ArrayDeque;
import java.util.ArrayList;
import java.util.BitSet;
import java.util.Comparator;
import java.util.Deque;
import java.util.List;
import java.util.TreeSet;
import java.util.regex.Matcher;
import java.util.regex.Pattern;

/**
 * The document once more, in the slowest and most literal form: every word is followed frame by
 * frame, every frame is a set of cells, and words meet if their sets do.
 */
final class Model {
    private static final int INVALID = -11;
    private static final int ILLEGAL = -12;
    private static final int FULL = -13;
    private static final int NONE = -19;
    private static final Pattern TOKEN = Pattern.compile("[a-z]+|[0-9]+|[^ ]", Pattern.DOTALL);
    private static final int[][] RANGES = {{0, 2000}, {1, 60}, {0, 60}, {0, 4}};
    private static final List<String> WAYS = List.of("", "left", "right", "up", "down");

    private static final class W {
        String letters;
        int[] values = new int[4];
        int[] place;
        List<BitSet> film;

        W copy() {
            W copy = new W();
            copy.letters = letters;
            copy.values = values.clone();
            copy.place = place == null ? null : place.clone();
            return copy;
        }
    }

    private static final class State {
        List<W> words = new ArrayList<>();
        TreeSet<Integer> shots = new TreeSet<>();
        int percent = 100;

        State copy() {
            State copy = new State();
            for (W w : words) {
                copy.words.add(w.copy());
            }
            copy.shots.addAll(shots);
            copy.percent = percent;
            return copy;
        }
    }

    private State now = new State();
    private final Deque<State> history = new ArrayDeque<>();
    private String text = "";

    private void action() {
        history.addLast(now.copy());
        if (history.size() > 5) {
            history.removeFirst();
        }
    }

    private static boolean in(int value, int low, int high) {
        return low <= value && value <= high;
    }

    private boolean isWord(int word) {
        return in(word, 0, now.words.size() - 1);
    }

    /** Row and column of the first letter in each frame on the screen, from the first one on. */
    private List<int[]> path(W w) {
        List<int[]> path = new ArrayList<>();
        if (w.place == null) {
            return path;
        }
        int a = w.values[0];
        int b = a + w.values[1] + w.values[2];
        float v = (float) now.percent / 100.0f;
        for (int frame = a; ; frame++) {
            if (frame > a && now.shots.contains(frame) || frame >= b && w.values[3] == 0) {
                return path;
            }
            int moved = frame < b ? 0 : (int) ((float) (frame - (b - 1)) * v);
            int[] at = w.place.clone();
            at[0] += w.values[3] == 3 ? -moved : w.values[3] == 4 ? moved : 0;
            at[1] += w.values[3] == 1 ? -moved : w.values[3] == 2 ? moved : 0;
            if (cells(w, at).isEmpty()) {
                return path;
            }
            path.add(at);
        }
    }

    private static BitSet cells(W w, int[] at) {
        BitSet cells = new BitSet();
        for (int i = 0; i < w.letters.length(); i++) {
            int column = at[1] + i;
            if (in(at[0], 0, 7) && in(column, 0, 39)) {
                cells.set(40 * at[0] + column);
            }
        }
        return cells;
    }

    private List<BitSet> film(W w) {
        List<BitSet> film = new ArrayList<>();
        for (int[] at : path(w)) {
            film.add(cells(w, at));
        }
        return film;
    }

    private static int meet(int a, List<BitSet> filmA, int b, List<BitSet> filmB) {
        for (int i = 0; i < filmA.size(); i++) {
            int j = a + i - b;
            if (in(j, 0, filmB.size() - 1) && filmA.get(i).intersects(filmB.get(j))) {
                return a + i;
            }
        }
        return NONE;
    }

    private int meet(W a, W b) {
        return meet(a.values[0], film(a), b.values[0], film(b));
    }

    private int[] at(W w, int frame) {
        List<int[]> path = path(w);
        int i = frame - w.values[0];
        return in(i, 0, path.size() - 1) ? path.get(i) : null;
    }

    /** What stands on the screen beside a word, to be compared with many places of it. */
    private List<W> others(W w) {
        List<W> others = new ArrayList<>();
        for (W other : now.words) {
            if (other != w && other.place != null) {
                W copy = other.copy();
                copy.film = film(other);
                others.add(copy);
            }
        }
        return others;
    }

    private boolean isFree(W w, int frame, int lane, int column, List<W> others) {
        W trial = w.copy();
        trial.values[0] = frame;
        trial.place = new int[] {lane, column};
        List<BitSet> film = film(trial);
        for (W other : others) {
            if (meet(frame, film, other.values[0], other.film) != NONE) {
                return false;
            }
        }
        return true;
    }

    private int countPut() {
        int put = 0;
        for (W w : now.words) {
            put += w.place != null ? 1 : 0;
        }
        return put;
    }

    int addWord(int length, int frame, int spoken, int held, int way) {
        int[] values = {frame, spoken, held, way};
        boolean isRight = in(length, 1, 12);
        for (int i = 0; i < 4; i++) {
            isRight &= in(values[i], RANGES[i][0], RANGES[i][1]);
        }
        if (!isRight) {
            return INVALID;
        }
        if (now.words.size() == 12) {
            return FULL;
        }
        action();
        W w = new W();
        w.letters = "abcdefghijkl".substring(0, length);
        w.values = values;
        now.words.add(w);
        return now.words.size() - 1;
    }

    int removeWord(int word) {
        if (!isWord(word)) {
            return INVALID;
        }
        action();
        now.words.remove(word);
        return now.words.size();
    }

    int setWord(int word, int what, int value) {
        if (!isWord(word) || !in(what, 0, 3) || !in(value, RANGES[what][0], RANGES[what][1])) {
            return INVALID;
        }
        action();
        W w = now.words.get(word);
        int previous = w.values[what];
        w.values[what] = value;
        w.place = null;
        return previous;
    }

    int addShot(int frame) {
        if (!in(frame, 1, 3000)) {
            return INVALID;
        }
        if (now.shots.contains(frame)) {
            return ILLEGAL;
        }
        if (now.shots.size() == 10) {
            return FULL;
        }
        action();
        now.shots.add(frame);
        return now.shots.size();
    }

    int removeShot(int frame) {
        if (!in(frame, 1, 3000)) {
            return INVALID;
        }
        if (!now.shots.contains(frame)) {
            return ILLEGAL;
        }
        action();
        now.shots.remove(frame);
        return now.shots.size();
    }

    int setSpeed(int percent) {
        if (!in(percent, 50, 400)) {
            return INVALID;
        }
        action();
        int previous = now.percent;
        now.percent = percent;
        return previous;
    }

    int append(int character) {
        if (!in(character, 1, 255)) {
            return INVALID;
        }
        if (text.length() == 160) {
            return FULL;
        }
        text += (char) character;
        return text.length();
    }

    int clearText() {
        int previous = text.length();
        text = "";
        return previous;
    }

    int load() {
        State before = now.copy();
        List<String> tokens = new ArrayList<>();
        List<Integer> starts = new ArrayList<>();
        Matcher matcher = TOKEN.matcher(text);
        while (matcher.find()) {
            tokens.add(matcher.group());
            starts.add(matcher.start());
        }
        List<String> item = new ArrayList<>();
        int items = 0;
        for (int i = 0; i < tokens.size(); i++) {
            item.add(tokens.get(i));
            if (!mayGoOn(item)) {
                now = before;
                return -1000 - starts.get(i);
            }
            if (tokens.get(i).equals(";")) {
                addItem(item);
                items++;
                item.clear();
            }
        }
        if (!item.isEmpty()) {
            now = before;
            return -1000 - text.length();
        }
        State after = now;
        now = before;
        action();
        now = after;
        text = "";
        return items;
    }

    /** Whether the last token of an item that has begun is allowed where it stands. */
    private boolean mayGoOn(List<String> item) {
        int last = item.size() - 1;
        String token = item.get(last);
        boolean isSay = item.get(0).equals("say");
        if (last == 0) {
            return isSay && now.words.size() < 12
                    || token.equals("cut") && now.shots.size() < 10;
        }
        if (!isSay) {
            return last == 1 ? isNumber(token, 1, 3000)
                    && !now.shots.contains(Integer.parseInt(token)) : token.equals(";");
        }
        if (last == 1) {
            return token.matches("[a-z]{1,12}");
        }
        if (last <= 4) {
            return isNumber(token, RANGES[last - 2][0], RANGES[last - 2][1]);
        }
        return token.equals(";") || last == 5 && WAYS.contains(token);
    }

    private static boolean isNumber(String token, int low, int high) {
        return token.matches("0|[1-9][0-9]{0,8}") && in(Integer.parseInt(token), low, high);
    }

    private void addItem(List<String> item) {
        if (item.get(0).equals("cut")) {
            now.shots.add(Integer.parseInt(item.get(1)));
            return;
        }
        W w = new W();
        w.letters = item.get(1);
        for (int i = 0; i < 3; i++) {
            w.values[i] = Integer.parseInt(item.get(2 + i));
        }
        w.values[3] = Math.max(0, WAYS.indexOf(item.get(5)));
        now.words.add(w);
    }

    private boolean isPlace(int word, int lane, int column) {
        return isWord(word) && in(lane, 0, 7)
                && in(column, 0, 40 - now.words.get(word).letters.length());
    }

    int put(int word, int lane, int column) {
        if (!isPlace(word, lane, column)) {
            return INVALID;
        }
        W w = now.words.get(word);
        if (!isFree(w, w.values[0], lane, column, others(w))) {
            return ILLEGAL;
        }
        action();
        w.place = new int[] {lane, column};
        return countPut();
    }

    int take(int word) {
        if (!isWord(word)) {
            return INVALID;
        }
        if (now.words.get(word).place == null) {
            return ILLEGAL;
        }
        action();
        now.words.get(word).place = null;
        return countPut();
    }

    int putAll() {
        action();
        for (W w : now.words) {
            w.place = null;
        }
        List<W> order = new ArrayList<>(now.words);
        order.sort(Comparator.<W>comparingInt(w -> w.values[0])
                .thenComparingInt(w -> -w.letters.length()));
        for (W w : order) {
            putSomewhere(w);
        }
        return countPut();
    }

    private void putSomewhere(W w) {
        List<W> others = others(w);
        int last = 40 - w.letters.length();
        List<Integer> columns = new ArrayList<>();
        for (int column = 0; column <= last; column++) {
            columns.add(column);
        }
        columns.sort(Comparator.comparingInt(column -> Math.abs(column - last / 2)));
        for (int lane : new int[] {3, 4, 2, 5, 1, 6, 0, 7}) {
            for (int column : columns) {
                if (isFree(w, w.values[0], lane, column, others)) {
                    w.place = new int[] {lane, column};
                    return;
                }
            }
        }
    }

    int undo() {
        if (history.isEmpty()) {
            return ILLEGAL;
        }
        now = history.removeLast();
        return history.size();
    }

    int count(int what) {
        if (what == 4) {
            return countPairs();
        }
        int[] counts = {now.words.size(), countPut(), now.shots.size(), now.percent, 0,
            history.size(), text.length()};
        return in(what, 0, 6) ? counts[what] : INVALID;
    }

    private int countPairs() {
        int pairs = 0;
        for (W a : now.words) {
            for (W b : now.words) {
                pairs += a != b && meet(a, b) != NONE ? 1 : 0;
            }
        }
        return pairs / 2;
    }

    int word(int word, int what) {
        if (!isWord(word) || !in(what, 0, 7)) {
            return INVALID;
        }
        W w = now.words.get(word);
        if (what < 4) {
            return w.values[what];
        }
        if (what == 7) {
            return w.letters.length();
        }
        if (w.place == null) {
            return NONE;
        }
        return what == 6 ? w.values[0] + path(w).size() - 1 : w.place[what - 4];
    }

    int letter(int word, int index) {
        if (!isWord(word) || index < 0) {
            return INVALID;
        }
        String letters = now.words.get(word).letters;
        return index < letters.length() ? letters.charAt(index) : NONE;
    }

    int shot(int index) {
        if (index < 0) {
            return INVALID;
        }
        List<Integer> shots = new ArrayList<>(now.shots);
        return index < shots.size() ? shots.get(index) : NONE;
    }

    int where(int word, int frame, int what) {
        if (!isWord(word) || !in(frame, 0, 4000) || !in(what, 0, 1)) {
            return INVALID;
        }
        int[] at = at(now.words.get(word), frame);
        if (at == null) {
            return NONE;
        }
        return at[what] < 0 || at[what] > 39 ? at[what] - 1000 : at[what];
    }

    int written(int row, int column, int frame) {
        if (!in(row, 0, 7) || !in(column, 0, 39) || !in(frame, 0, 4000)) {
            return INVALID;
        }
        for (W w : now.words) {
            int[] at = at(w, frame);
            if (at != null && cells(w, at).get(40 * row + column)) {
                return w.letters.charAt(column - at[1]);
            }
        }
        return NONE;
    }

    int onScreen(int frame) {
        if (!in(frame, 0, 4000)) {
            return INVALID;
        }
        int set = 0;
        for (int k = 0; k < now.words.size(); k++) {
            set += at(now.words.get(k), frame) != null ? 1 << k : 0;
        }
        return set;
    }

    int meeting(int a, int b) {
        if (!isWord(a) || !isWord(b) || a == b) {
            return INVALID;
        }
        return meet(now.words.get(a), now.words.get(b));
    }

    int pace(int frame) {
        if (!in(frame, 0, 4000)) {
            return INVALID;
        }
        float sum = 0.0f;
        for (W w : now.words) {
            if (in(frame, w.values[0], w.values[0] + w.values[1] - 1)) {
                sum += (float) w.letters.length() / (float) w.values[1];
            }
        }
        return (int) (sum * 25.0f);
    }

    int earliest(int word, int lane, int column) {
        if (!isPlace(word, lane, column)) {
            return INVALID;
        }
        W w = now.words.get(word);
        List<W> others = others(w);
        for (int frame = w.values[0]; frame <= 2000; frame++) {
            if (isFree(w, frame, lane, column, others)) {
                return frame;
            }
        }
        return NONE;
    }

    int filled(int frame) {
        if (!in(frame, 0, 4000)) {
            return INVALID;
        }
        BitSet cells = new BitSet();
        for (W w : now.words) {
            int[] at = at(w, frame);
            if (at != null) {
                cells.or(cells(w, at));
            }
        }
        return cells.cardinality();
    }
}
