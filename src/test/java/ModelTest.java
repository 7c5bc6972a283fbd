import java.util.Arrays;

/** Long runs of calls, made by a plain generator of numbers: TwoModems and Model answer alike. */
public final class ModelTest {
    private static final int RUNS = 1500, CALLS = 512;
    private static final int[] ODD = {Integer.MIN_VALUE, -1003, -101, -100, -1, 0, 1, 2, 3, 4, 5, 7, 8, 9, 15, 16,
        17, 18, 19, 20, 27, 28, 30, 31, 32, 100, 101, 126, 127, 200, Integer.MAX_VALUE};

    private final Checks checks = new Checks();
    private final int[] phasesSeen = new int[8];
    private long seed;
    private TwoModems x;
    private Model m;
    private int calls;
    private int run;
    private int style;

    public static void main(String[] args) {
        new ModelTest().play();
    }

    private void play() {
        int agains = 0, surrenders = 0, repeated = 0, letters = 0, sweeps = 0;
        for (run = 0; run < RUNS && checks.wrongs() == 0; run++) {
            seed = 77003L * run + 5;
            x = new TwoModems();
            m = new Model();
            calls = 0;
            style = below(4);
            while (calls < CALLS - 100) {
                step();
            }
            agains += m.end(0, 13) + m.end(1, 13);
            surrenders += m.end(0, 12) + m.end(1, 12);
            repeated += m.count(8);
            letters += m.end(0, 9) + m.end(1, 9);
            sweep();
            sweeps++;
        }
        System.out.println("runs " + sweeps + ", AGAIN " + agains + ", gave up " + surrenders + ", sent twice "
            + repeated + ", GOT " + letters + ", PHASES " + Arrays.toString(phasesSeen));
        for (int phase = 0; phase < 8; phase++) {
            checks.due("PHASE " + phase + " was seen", phasesSeen[phase] > 0 ? 1 : 0, 1);
        }
        checks.due("enough was lost, repeated, given up", Math.min(Math.min(agains, surrenders),
            Math.min(repeated, letters)) > 1000 ? 1 : 0, 1);
        checks.finish();
    }

    private int below(int bound) {
        seed = seed * 6364136223846793005L + 1442695040888963407L;
        return (int) ((seed >>> 33) % bound);
    }

    private void due(String told, long got, long want) {
        calls++;
        checks.due("run " + run + " call " + calls + ": " + told, got, want);
    }

    private void step() {
        int kind = below(100);
        if (kind < (style == 3 ? 12 : 6)) {
            write(style == 3 ? brokenLine() : lineText());
            due("line", x.line(), m.line());
        } else if (kind < 14) {
            write(words(1 + below(style == 1 ? 30 : 9)));
            say(below(2));
        } else if (kind < 20) {
            echo(below(2), below(4), below(201) - 100);
        } else if (kind < 34) {
            call(below(2));
        } else if (kind < 35) {
            hang(below(2));
        } else if (kind < 78) {
            go(style == 0 ? 1 + below(5) : style == 1 ? 1 + below(100) : 1 + below(30));
        } else if (kind < 82) {
            odd();
        } else {
            ask();
        }
        for (int end = 0; end < 2; end++) {
            phasesSeen[m.end(end, 0)]++;
        }
        due("digest", x.digest(), m.digest());
    }

    private void write(String text) {
        due("blank", x.blank(), m.blank());
        for (int k = 0; k < text.length(); k++) {
            letter(text.charAt(k));
        }
        due("fault of " + text, x.fault(), m.fault());
    }

    private String words(int size) {
        StringBuilder text = new StringBuilder();
        for (int k = 0; k < size; k++) {
            text.append((char) (' ' + below(95)));
        }
        return text.toString();
    }

    private String lineText() {
        String figures = style == 2 ? "0123456789abcdef" : "89abcdef";
        StringBuilder text = new StringBuilder();
        for (int k = 0; k < 17; k++) {
            text.append(k == 8 ? '/' : figures.charAt(below(figures.length())));
        }
        text.append(';').append(1 + below(8));
        if (below(3) > 0) {
            text.append('h').append(hurt()).append(',').append(hurt());
        }
        if (below(6) == 0) {
            text.setCharAt(below(text.length()), "0159/;h,ag".charAt(below(10)));
        }
        return text.toString();
    }

    /** A good LINE, on which for a while nothing comes through on a WAY, or on both. */
    private String brokenLine() {
        String[] ends = {"", "", "", "h1,0", "h0,1", "h1,1", "h1,1"};
        return "cccc8888/88888888;" + (1 + below(below(4) == 0 ? 8 : 3)) + ends[below(ends.length)];
    }

    private int hurt() {
        return below(4) == 0 ? below(60) : below(9);
    }

    private void odd() {
        int a = ODD[below(ODD.length)], b = ODD[below(ODD.length)], c = ODD[below(ODD.length)];
        switch (below(12)) {
            case 0: letter(a); break;
            case 1: say(a); break;
            case 2: echo(a, b, c); break;
            case 3: echo(below(2), b, c); break;
            case 4: echo(below(2), below(4), c); break;
            case 5: call(a); break;
            case 6: hang(a); break;
            case 7: go(a); break;
            case 8: due("line", x.line(), m.line()); break;
            default: askOf(below(3) == 0 ? a : below(2), b); break;
        }
    }

    private void ask() {
        askOf(below(2), below(30));
    }

    private void askOf(int end, int what) {
        switch (below(7)) {
            case 0: due("end " + end + " " + what, x.end(end, what), m.end(end, what)); break;
            case 1: due("band " + end + " " + what, x.band(end, what), m.band(end, what)); break;
            case 2: due("learnt " + end + " " + what, x.learnt(end, what), m.learnt(end, what)); break;
            case 3: due("got " + end + " " + what, x.got(end, what), m.got(end, what)); break;
            case 4: due("heard " + end + " " + what, x.heard(end, what), m.heard(end, what)); break;
            case 5: due("about " + what, x.about(what), m.about(what)); break;
            default: due("count " + what, x.count(what), m.count(what)); break;
        }
    }

    private void sweep() {
        for (int end = 0; end < 2; end++) {
            for (int what = 0; what < 16; what++) {
                due("end " + end + " " + what, x.end(end, what), m.end(end, what));
            }
            for (int what = 0; what < 5; what++) {
                due("heard " + end + " " + what, x.heard(end, what), m.heard(end, what));
            }
            for (int place = m.end(end, 9) - 3; place <= m.end(end, 9); place++) {
                due("got " + end + " " + place, x.got(end, place), m.got(end, place));
            }
        }
        for (int what = 0; what < 9; what++) {
            due("count " + what, x.count(what), m.count(what));
        }
    }

    private void letter(int code) {
        due("letter " + code, x.letter(code), m.letter(code));
    }

    private void say(int end) {
        due("say " + end, x.say(end), m.say(end));
    }

    private void echo(int end, int tap, int v) {
        due("echo " + end + " " + tap + " " + v, x.echo(end, tap, v), m.echo(end, tap, v));
    }

    private void call(int end) {
        due("call " + end, x.call(end), m.call(end));
    }

    private void hang(int end) {
        due("hang " + end, x.hang(end), m.hang(end));
    }

    private void go(int n) {
        due("go " + n, x.go(n), m.go(n));
    }
}
