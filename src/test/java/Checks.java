import java.lang.reflect.Method;
import java.util.Arrays;
import java.util.Comparator;
import java.util.function.LongSupplier;

/** What all tests share: the counting of wrong answers, and runs of calls that come often. */
final class Checks {
    static final int UNKNOWN = -1001, OUTSIDE = -1002, STATE = -1003, FULL = -1004;
    static final int[] WRONG_ENDS = {-1, 2, Integer.MIN_VALUE, Integer.MAX_VALUE};
    static final String PLAIN = "88888888/88888888;2";

    private String test = "";
    private int wrong = 0;
    private int all = 0;

    /** Every method of these tests that bears a promise's or the Terms' name is a test: none is forgotten. */
    void runAll(Object tests) throws ReflectiveOperationException {
        Method[] methods = tests.getClass().getDeclaredMethods();
        Arrays.sort(methods, Comparator.comparing(Method::getName));
        for (Method method : methods) {
            if (method.getName().matches("(promise|terms)[0-9].*") && method.getParameterCount() == 0) {
                test = method.getName() + ": ";
                method.setAccessible(true);
                method.invoke(tests);
            }
        }
        test = "";
    }

    void due(String told, long got, long want) {
        all++;
        if (got != want) {
            wrong++;
            if (wrong <= 40) {
                System.out.println(test + told + " answered " + got + ", due is " + want);
            }
        }
    }

    /** What is refused answers as told and changes nothing. */
    void refused(String told, TwoModems x, LongSupplier call, int want) {
        long before = x.digest();
        due(told, call.getAsLong(), want);
        due("digest behind the refused " + told, x.digest(), before);
    }

    /** Of an END, by pairs: what, and what is due. */
    void dueEnd(String when, TwoModems x, int end, int... whats) {
        for (int k = 0; k < whats.length; k += 2) {
            due(when + ": end(" + end + ", " + whats[k] + ")", x.end(end, whats[k]), whats[k + 1]);
        }
    }

    /** What an END heard: as many of its five numbers as are told here. */
    void dueHeard(String when, TwoModems x, int end, int... want) {
        for (int what = 0; what < want.length; what++) {
            due(when + ": heard(" + end + ", " + what + ")", x.heard(end, what), want[what]);
        }
    }

    void dueText(String told, String got, String want) {
        due(told + " \"" + got + "\" for \"" + want + "\"", got.equals(want) ? 1 : 0, 1);
    }

    int wrongs() {
        return wrong;
    }

    void finish() {
        System.out.println(all + " answers looked at, " + wrong + " wrong");
        if (wrong != 0) {
            System.exit(1);
        }
    }

    static TwoModems on(String line) {
        TwoModems x = new TwoModems();
        read(x, line);
        return x;
    }

    static TwoModems withPage(String text) {
        TwoModems x = new TwoModems();
        write(x, text);
        return x;
    }

    static void write(TwoModems x, String text) {
        for (int k = 0; k < text.length(); k++) {
            x.letter(text.charAt(k));
        }
    }

    static int read(TwoModems x, String text) {
        x.blank();
        write(x, text);
        return x.line();
    }

    static int speak(TwoModems x, int end, String text) {
        x.blank();
        write(x, text);
        return x.say(end);
    }

    static void pass(TwoModems x, int ticks) {
        for (int left = ticks; left > 0; left -= 100) {
            x.go(Math.min(left, 100));
        }
    }

    static String gotText(TwoModems x, int end) {
        StringBuilder text = new StringBuilder();
        int size = x.end(end, 9);
        for (int place = 0; place < size; place++) {
            text.append((char) x.got(end, place));
        }
        return text.toString();
    }
}
