/** What all tests share: the counting of wrong answers, and runs of calls that come often. */
final class Checks {
    private int wrong = 0;
    private int all = 0;

    void due(String told, long got, long want) {
        all++;
        if (got != want) {
            wrong++;
            if (wrong <= 40) {
                System.out.println(told + " answered " + got + ", due is " + want);
            }
        }
    }

    int wrongs() {
        return wrong;
    }

    void finish() {
        System.out.println(all + " answers looked at, " + wrong + " wrong");
        if (wrong != 0) {
            System.exit(1);
        }
    }

    static void write(TwoModems x, String text) {
        for (int k = 0; k < text.length(); k++) {
            x.letter(text.charAt(k));
        }
    }

    static int read(TwoModems x, String text) {
        x.blank();
        write(x, text);
        return x.line();
    }

    static int speak(TwoModems x, int end, String text) {
        x.blank();
        write(x, text);
        return x.say(end);
    }

    static void pass(TwoModems x, int ticks) {
        for (int left = ticks; left > 0; left -= 100) {
            x.go(Math.min(left, 100));
        }
    }

    static String gotText(TwoModems x, int end) {
        StringBuilder text = new StringBuilder();
        for (int place = 0; place < x.end(end, 9); place++) {
            text.append((char) x.got(end, place));
        }
        return text.toString();
    }
}
