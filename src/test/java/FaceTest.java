import java.lang.reflect.Constructor;
import java.lang.reflect.Field;
import java.lang.reflect.Method;
import java.lang.reflect.Modifier;
import java.util.Set;
import java.util.TreeSet;

/** The public face, the constants, and promise 1: a new object. */
final class FaceTest {
    private static final String[] METHODS = {
        "addWord 5", "removeWord 1", "setWord 3", "addShot 1", "removeShot 1", "setSpeed 1",
        "append 1", "clearText 0", "load 0", "put 3", "take 1", "putAll 0", "undo 0",
        "count 1", "word 2", "letter 2", "shot 1", "where 3", "written 3", "onScreen 1",
        "meeting 2", "pace 1", "earliest 3", "filled 1"};

    public static void main(String[] args) {
        Check check = new Check("FaceTest");
        constants(check);
        members(check);
        newObject(check);
        check.finish();
    }

    private static void constants(Check check) {
        check.due("INVALID_ARGUMENT", VoiceWords.INVALID_ARGUMENT, -11);
        check.due("ILLEGAL_STATE", VoiceWords.ILLEGAL_STATE, -12);
        check.due("CAPACITY_EXCEEDED", VoiceWords.CAPACITY_EXCEEDED, -13);
        check.due("NONE", VoiceWords.NONE, -19);
    }

    private static void members(Check check) {
        int ofClass = VoiceWords.class.getModifiers();
        check.holds("the class is public", Modifier.isPublic(ofClass));
        check.holds("the class is final", Modifier.isFinal(ofClass));
        Set<String> due = new TreeSet<>(Set.of(METHODS));
        Set<String> names = new TreeSet<>();
        for (String method : METHODS) {
            names.add(method.substring(0, method.indexOf(' ')));
        }
        Set<String> got = new TreeSet<>();
        for (Method method : VoiceWords.class.getDeclaredMethods()) {
            if (Modifier.isPublic(method.getModifiers())) {
                got.add(method.getName() + " " + method.getParameterCount());
                check.holds(method + " returns int", method.getReturnType() == int.class);
                for (Class<?> type : method.getParameterTypes()) {
                    check.holds(method + " takes int", type == int.class);
                }
            } else {
                check.holds(method + " is private", Modifier.isPrivate(method.getModifiers()));
                check.holds(method + " has its own name", !names.contains(method.getName()));
            }
        }
        check.holds("the methods " + got + " are " + due, got.equals(due));
        int constants = 0;
        for (Field field : VoiceWords.class.getDeclaredFields()) {
            if (Modifier.isPublic(field.getModifiers())) {
                constants++;
            } else {
                check.holds(field + " is private", Modifier.isPrivate(field.getModifiers()));
            }
        }
        check.due("public constants", constants, 4);
        Constructor<?>[] constructors = VoiceWords.class.getDeclaredConstructors();
        check.due("constructors", constructors.length, 1);
        check.due("its parameters", constructors[0].getParameterCount(), 0);
        check.holds("it is public", Modifier.isPublic(constructors[0].getModifiers()));
    }

    private static void newObject(Check check) {
        VoiceWords x = new VoiceWords();
        int[] counts = {0, 0, 0, 100, 0, 0, 0};
        for (int what = 0; what < counts.length; what++) {
            check.due("count(" + what + ")", x.count(what), counts[what]);
        }
        check.due("word(0, 0)", x.word(0, 0), -11);
        check.due("shot(0)", x.shot(0), -19);
        check.due("onScreen(0)", x.onScreen(0), 0);
        check.due("filled(0)", x.filled(0), 0);
        check.due("written(3, 20, 0)", x.written(3, 20, 0), -19);
        check.due("pace(0)", x.pace(0), 0);
        check.due("clearText()", x.clearText(), 0);
        check.due("undo()", x.undo(), -12);
        check.due("putAll()", x.putAll(), 0);
        VoiceWords other = new VoiceWords();
        x.addWord(1, 0, 1, 0, 0);
        check.due("another object's count(0)", other.count(0), 0);
    }
}
