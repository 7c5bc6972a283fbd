/** Promises 1 to 18, each with answers reckoned by hand from the document. */
public final class PromisesTest {
    private static final int UNKNOWN = Checks.UNKNOWN, OUTSIDE = Checks.OUTSIDE, STATE = Checks.STATE,
        FULL = Checks.FULL;
    private static final int[] WRONG_ENDS = Checks.WRONG_ENDS;
    private static final String PLAIN = Checks.PLAIN;

    private final Checks c = new Checks();

    public static void main(String[] args) throws ReflectiveOperationException {
        PromisesTest t = new PromisesTest();
        t.constants();
        t.c.runAll(t);
        t.c.finish();
    }

    private void constants() {
        c.due("NONE", TwoModems.NONE, -1);
        c.due("UNKNOWN", TwoModems.UNKNOWN, UNKNOWN);
        c.due("OUTSIDE", TwoModems.OUTSIDE, OUTSIDE);
        c.due("STATE", TwoModems.STATE, STATE);
        c.due("FULL", TwoModems.FULL, FULL);
    }

    private void promise1NewObject() {
        TwoModems x = new TwoModems();
        for (int end = 0; end < 2; end++) {
            for (int what = 0; what < 16; what++) {
                c.due("new: end " + end + " " + what, x.end(end, what), 0);
            }
            for (int band = 0; band < 8; band++) {
                c.due("new: band " + end + " " + band, x.band(end, band), 0);
            }
            for (int tap = 0; tap < 4; tap++) {
                c.due("new: learnt " + end + " " + tap, x.learnt(end, tap), 0);
                c.due("new: echo " + end + " " + tap, x.echo(end, tap, 0), 0);
            }
            for (int what = 0; what < 5; what++) {
                c.due("new: heard " + end + " " + what, x.heard(end, what), 0);
            }
            c.due("new: got " + end, x.got(end, 0), UNKNOWN);
        }
        c.due("new: about 0", x.about(0), 2);
        for (int what = 1; what < 4; what++) {
            c.due("new: about " + what, x.about(what), 0);
        }
        for (int band = 0; band < 8; band++) {
            c.due("new: about " + (10 + band), x.about(10 + band), 8);
            c.due("new: about " + (20 + band), x.about(20 + band), 8);
        }
        for (int what = 0; what < 9; what++) {
            c.due("new: count " + what, x.count(what), 0);
        }
        c.due("new: blank", x.blank(), 0);
    }

    private void promise2Letter() {
        TwoModems x = new TwoModems();
        c.due("letter 31", x.letter(31), OUTSIDE);
        c.due("letter 127", x.letter(127), OUTSIDE);
        c.due("letter -1", x.letter(-1), OUTSIDE);
        c.due("letter least", x.letter(Integer.MIN_VALUE), OUTSIDE);
        c.due("letter most", x.letter(Integer.MAX_VALUE), OUTSIDE);
        c.due("refused letters are not there", x.count(0), 0);
        c.due("letter 32", x.letter(32), 1);
        c.due("letter 126", x.letter(126), 2);
        for (int k = 3; k <= 30; k++) {
            c.due("letter number " + k, x.letter('a'), k);
        }
        c.due("letter 31st", x.letter('a'), FULL);
        c.due("letter 31st, wrong", x.letter(31), OUTSIDE);
        c.due("still 30", x.count(0), 30);
    }

    private void promise3Blank() {
        TwoModems x = new TwoModems();
        c.due("blank of none", x.blank(), 0);
        Checks.write(x, "8/;");
        c.due("blank of three", x.blank(), 3);
        c.due("none is left", x.count(0), 0);
        c.due("the next letter is the first", x.letter('x'), 1);
        c.due("blank of one", x.blank(), 1);
        c.due("blank once more", x.blank(), 0);
    }

    private void dueFault(String text, int want) {
        TwoModems x = new TwoModems();
        Checks.write(x, text);
        c.due("fault of " + text, x.fault(), want);
        c.due("fault leaves THE PAGE " + text, x.count(0), text.length());
    }

    private void promise4Fault() {
        dueFault("", 0);
        dueFault("0123456", 7);
        dueFault("01234567", 8);
        dueFault("012345678", 8);
        dueFault("89abcdef/", 9);
        dueFault("89abcdeg", 7);
        dueFault("89abcdeF", 7);
        dueFault("`aaaaaaa", 0);
        dueFault(":aaaaaaa", 0);
        dueFault("/", 0);
        dueFault("88888888/8888888/", 16);
        dueFault("88888888/888888888", 17);
        dueFault("88888888/88888888;", 18);
        dueFault("88888888;88888888;2", 8);
        dueFault("88888888/88888888;0", 18);
        dueFault("88888888/88888888;1", 19);
        dueFault("88888888/88888888;8", 19);
        dueFault("88888888/88888888;9", 18);
        dueFault(PLAIN + "2", 19);
        dueFault(PLAIN + "H", 19);
        dueFault(PLAIN + "h", 20);
        dueFault(PLAIN + "h,", 20);
        dueFault(PLAIN + "ha", 20);
        dueFault(PLAIN + "h-1", 20);
        dueFault(PLAIN + "h0", 21);
        dueFault(PLAIN + "h00", 21);
        dueFault(PLAIN + "h05", 21);
        dueFault(PLAIN + "h50", 22);
        dueFault(PLAIN + "h51", 21);
        dueFault(PLAIN + "h6", 21);
        dueFault(PLAIN + "h60", 21);
        dueFault(PLAIN + "h49,", 23);
        dueFault(PLAIN + "h500", 22);
        dueFault(PLAIN + "h100", 22);
        dueFault(PLAIN + "h5,,", 22);
        dueFault(PLAIN + "h5,0", 23);
        dueFault(PLAIN + "h5,00", 23);
        dueFault(PLAIN + "h5,6", 23);
        dueFault(PLAIN + "h5,51", 23);
        dueFault(PLAIN + "h5,5,", 23);
        dueFault(PLAIN + "h50,50", 25);
        dueFault(PLAIN + "h50,500", 25);
        dueFault(PLAIN + "h50,50 ", 25);
        dueFault(PLAIN + "h0,0/", 23);
        dueFault(PLAIN + "h0,:", 22);
        dueFault("x8888888/88888888;9h99,99", 0);
    }

    private void dueNoLine(String text) {
        TwoModems x = new TwoModems();
        Checks.write(x, text);
        c.due("line of " + text, x.line(), STATE);
        c.due("THE PAGE stays " + text, x.count(0), text.length());
        c.due("no LINE was read " + text, x.count(7), 0);
    }

    private void promise5Line() {
        TwoModems x = new TwoModems();
        c.due("line", Checks.read(x, "01234567/89abcdef;8h50,7"), 8);
        c.due("THE PAGE is empty", x.count(0), 0);
        for (int band = 0; band < 8; band++) {
            c.due("WAY 0 BAND " + band, x.about(10 + band), band);
            c.due("WAY 1 BAND " + band, x.about(20 + band), 8 + band);
        }
        c.due("DELAY", x.about(0), 8);
        c.due("HURT 0", x.about(1), 50);
        c.due("HURT 1", x.about(2), 7);
        c.due("line of none", x.line(), STATE);
        c.due("line with 0s", Checks.read(x, PLAIN.replace('8', 'a') + "h0,13"), 2);
        c.due("HURT 0", x.about(1), 0);
        c.due("HURT 1", x.about(2), 13);
        c.due("line without HURT", Checks.read(x, "88888888/88888888;1"), 1);
        c.due("HURT 0 is gone", x.about(1), 0);
        c.due("HURT 1 is gone", x.about(2), 0);
        c.due("three were read", x.count(7), 3);
        dueNoLine("");
        dueNoLine("88888888/88888888;");
        dueNoLine("88888888/88888888;9");
        dueNoLine(PLAIN + "h");
        dueNoLine(PLAIN + "h5");
        dueNoLine(PLAIN + "h5,");
        dueNoLine(PLAIN + "h5,51");
        dueNoLine(PLAIN + "h05,5");
        dueNoLine(PLAIN + " ");
        dueNoLine(PLAIN + "h50,50,");
    }

    private void promise5SignalsOnTheirWayStay() {
        TwoModems x = new TwoModems();
        Checks.read(x, "88888888/88888888;8");
        x.call(0);
        x.go(1);
        x.hang(0);
        Checks.read(x, "88888888/88888888;1");
        x.go(7);
        c.due("CALL of TICK 0 is still on its way", x.end(1, 0), 0);
        x.go(1);
        c.due("it comes in TICK 8", x.end(1, 0), 0);
        c.due("but what was sent later came instead", x.heard(1, 0), 0);
        x = new TwoModems();
        Checks.read(x, "88888888/88888888;8");
        x.call(0);
        x.go(1);
        Checks.read(x, "88888888/88888888;3");
        x.go(3);
        c.due("nothing came yet", x.end(1, 0), 0);
        x.go(1);
        c.due("CALL of TICK 1 comes in TICK 4, ahead of that of TICK 0", x.end(1, 0), 2);
    }

    private void promise6Say() {
        TwoModems x = new TwoModems();
        for (int end : WRONG_ENDS) {
            c.due("say " + end, x.say(end), UNKNOWN);
        }
        c.due("say nothing", x.say(0), 0);
        Checks.write(x, "~ hello");
        c.due("say of a wrong END", x.say(2), UNKNOWN);
        c.due("THE PAGE stays", x.count(0), 7);
        c.due("say", x.say(1), 7);
        c.due("THE PAGE is empty", x.count(0), 0);
        c.dueEnd("said", x, 1, 6, 7);
        c.dueEnd("said", x, 0, 6, 0);
        c.due("say nothing more", x.say(1), 7);
        String thirty = "abcdefghijklmnopqrstuvwxyz0123";
        for (int k = 1; k <= 6; k++) {
            c.due("say thirty", Checks.speak(x, 0, thirty), 30 * k);
        }
        c.due("21 more are too many", Checks.speak(x, 0, "abcdefghijklmnopqrstu"), FULL);
        c.due("THE PAGE stays", x.count(0), 21);
        c.due("say of a wrong END is UNKNOWN first", x.say(-1), UNKNOWN);
        c.dueEnd("180", x, 0, 6, 180);
        c.due("20 more are 200", Checks.speak(x, 0, "abcdefghijklmnopqrst"), 200);
        c.due("one more is too many", Checks.speak(x, 0, "a"), FULL);
        x.blank();
        c.due("none more is not", x.say(0), 200);
    }

    private void promise7Echo() {
        TwoModems x = new TwoModems();
        for (int end = 0; end < 2; end++) {
            for (int tap = 0; tap < 4; tap++) {
                c.due("echo first", x.echo(end, tap, 10 * end + tap + 1), 0);
            }
        }
        for (int end = 0; end < 2; end++) {
            for (int tap = 0; tap < 4; tap++) {
                c.due("echo again", x.echo(end, tap, -100), 10 * end + tap + 1);
                c.due("echo at the edge", x.echo(end, tap, 100), -100);
            }
        }
        c.due("echo 101", x.echo(0, 0, 101), OUTSIDE);
        c.due("echo -101", x.echo(1, 3, -101), OUTSIDE);
        c.due("echo least", x.echo(1, 3, Integer.MIN_VALUE), OUTSIDE);
        c.due("echo tap 4", x.echo(0, 4, 0), UNKNOWN);
        c.due("echo tap -1", x.echo(0, -1, 0), UNKNOWN);
        c.due("echo tap 4 and v", x.echo(0, 4, 101), UNKNOWN);
        for (int end : WRONG_ENDS) {
            c.due("echo end " + end, x.echo(end, 0, 0), UNKNOWN);
            c.due("echo end and v", x.echo(end, 0, 101), UNKNOWN);
        }
        c.due("nothing changed", x.echo(0, 0, 1), 100);
        c.due("nothing changed", x.echo(1, 3, 1), 100);
    }

    private void promise8Call() {
        TwoModems x = new TwoModems();
        for (int end : WRONG_ENDS) {
            c.due("call " + end, x.call(end), UNKNOWN);
        }
        x.go(3);
        c.dueEnd("in REST", x, 0, 1, 3);
        c.due("call 0", x.call(0), 1);
        c.dueEnd("called", x, 0, 0, 1, 1, 0);
        c.dueEnd("called", x, 1, 0, 0, 1, 3);
        c.due("call 0 again", x.call(0), STATE);
        c.due("call is no change of go()", x.count(6), 0);
        c.due("call 1", x.call(1), 1);
        x.go(59);
        c.due("both call, none answers", x.end(0, 0), 1);
        c.due("call again", x.call(1), STATE);
    }

    private void promise9Hang() {
        TwoModems x = new TwoModems();
        for (int end : WRONG_ENDS) {
            c.due("hang " + end, x.hang(end), UNKNOWN);
        }
        c.due("hang in REST", x.hang(0), STATE);
        c.due("hang in REST", x.hang(1), STATE);
        int[] ticks = {1, 5, 19, 51, 55, 56};
        int[] phases = {1, 3, 4, 5, 6, 7};
        for (int k = 0; k < ticks.length; k++) {
            x = new TwoModems();
            x.call(0);
            x.go(ticks[k]);
            int changes = x.count(6);
            c.due("hang in PHASE", x.hang(0), phases[k]);
            c.dueEnd("hung", x, 0, 0, 0, 1, 0, 12, 0);
            c.due("hang is no change of go()", x.count(6), changes);
            c.due("hang again", x.hang(0), STATE);
        }
        x = new TwoModems();
        x.call(0);
        x.go(3);
        c.due("hang in ANSWER", x.hang(1), 2);
        c.due("call behind hang", x.call(1), 1);
    }

    private void promise10Go() {
        TwoModems x = new TwoModems();
        c.due("go 0", x.go(0), OUTSIDE);
        c.due("go 101", x.go(101), OUTSIDE);
        c.due("go -1", x.go(-1), OUTSIDE);
        c.due("go least", x.go(Integer.MIN_VALUE), OUTSIDE);
        c.due("go most", x.go(Integer.MAX_VALUE), OUTSIDE);
        c.due("no TICK passed", x.count(1), 0);
        c.due("go 1", x.go(1), 0);
        c.due("go 100", x.go(100), 0);
        c.due("101 TICKS passed", x.count(1), 101);
        x.call(0);
        c.due("go over the whole handshake", x.go(57), 11);
        c.due("go in DATA", x.go(100), 0);
        c.dueEnd("in DATA", x, 0, 0, 7, 1, 102);
        c.dueEnd("in DATA", x, 1, 0, 7, 1, 101);
    }

    /** Of an END: at[p] is the TICK in which it comes into PHASE p. PHASE and LASTED are each looked at in a run. */
    private void dueHandshake(String line, int caller, int[][] at, int ticks) {
        for (int what = 0; what < 2; what++) {
            TwoModems x = Checks.on(line);
            x.call(caller);
            int[] phase = new int[2];
            int[] since = new int[2];
            phase[caller] = 1;
            for (int tick = 0; tick < ticks; tick++) {
                int changes = 0;
                for (int role = 0; role < 2; role++) {
                    int end = role == 0 ? caller : 1 - caller;
                    for (int p = 2; p < 8; p++) {
                        if (at[role][p] == tick) {
                            phase[end] = p;
                            since[end] = tick;
                            changes++;
                        }
                    }
                }
                c.due("go in TICK " + tick, x.go(1), changes);
                for (int end = 0; end < 2; end++) {
                    c.dueEnd("TICK " + tick, x, end, what, what == 0 ? phase[end] : tick + 1 - since[end]);
                }
            }
        }
    }

    private void promise10HandshakeTickByTick() {
        int[][] at = {{-1, 0, -1, 4, 18, 50, 54, 55}, {-1, -1, 2, 6, 20, 52, 53, 56}};
        dueHandshake(PLAIN, 0, at, 80);
        dueHandshake(PLAIN, 1, at, 80);
    }

    private void promise10HandshakeOverTheLongestDelay() {
        int[][] at = {{-1, 0, -1, 16, 42, 74, 90, 91}, {-1, -1, 8, 24, 50, 82, 83, 98}};
        dueHandshake("88888888/88888888;8", 0, at, 130);
        at = new int[][] {{-1, 0, -1, 2, 14, 46, 48, 49}, {-1, -1, 1, 3, 15, 47, 48, 49}};
        dueHandshake("88888888/88888888;1", 0, at, 70);
    }

    private void promise11EndInTheHandshake() {
        TwoModems x = new TwoModems();
        for (int end : WRONG_ENDS) {
            c.due("end " + end, x.end(end, 0), UNKNOWN);
            c.due("end " + end + " first", x.end(end, 16), UNKNOWN);
        }
        c.due("end what 16", x.end(0, 16), OUTSIDE);
        c.due("end what -1", x.end(1, -1), OUTSIDE);
        c.due("end what most", x.end(1, Integer.MAX_VALUE), OUTSIDE);
        x.call(0);
        x.go(50);
        c.dueEnd("ahead of BARGAIN", x, 0, 0, 4, 2, 0, 3, 0, 4, 0);
        x.go(1);
        c.dueEnd("in BARGAIN", x, 0, 0, 5, 2, 1, 3, 16, 4, 0, 11, 0);
        x.go(3);
        c.dueEnd("END 1 in AGREE", x, 1, 0, 6, 2, 1, 3, 16, 4, 16, 14, 0);
        x.go(2);
        c.dueEnd("in DATA", x, 0, 0, 7, 14, 1, 5, 16);
        c.dueEnd("not yet in DATA", x, 1, 0, 6, 14, 0, 5, 0);
        x.go(1);
        c.dueEnd("in DATA", x, 0, 5, 24);
        c.dueEnd("in DATA", x, 1, 0, 7, 14, 1, 5, 16);
    }

    private void promise11EndInData() {
        TwoModems x = new TwoModems();
        Checks.speak(x, 0, "ABCDEFG");
        x.call(0);
        x.go(56);
        c.dueEnd("TICK 55", x, 0, 5, 0, 6, 7, 7, 2, 8, 0, 10, 0);
        x.go(1);
        c.dueEnd("TICK 56", x, 0, 5, 0, 7, 4, 8, 0, 10, 1);
        c.dueEnd("TICK 56", x, 1, 9, 0);
        x.go(1);
        c.dueEnd("TICK 57", x, 0, 5, 0, 7, 6, 8, 0, 10, 2);
        c.dueEnd("TICK 57", x, 1, 9, 2);
        x.go(1);
        c.dueEnd("TICK 58", x, 0, 5, 8, 7, 7, 8, 0, 10, 3);
        c.dueEnd("TICK 58", x, 1, 9, 4);
        x.go(1);
        c.dueEnd("TICK 59", x, 0, 5, 24, 7, 7, 8, 2, 10, 0);
        c.dueEnd("TICK 59", x, 1, 9, 6);
        x.go(1);
        c.dueEnd("TICK 60", x, 0, 8, 4, 10, 0);
        c.dueEnd("TICK 60", x, 1, 9, 7);
        x.go(2);
        c.dueEnd("TICK 62", x, 0, 7, 7, 8, 7, 9, 0, 10, 0);
        x.go(100);
        c.dueEnd("long behind", x, 0, 0, 7, 7, 7, 8, 7, 10, 0, 15, 0);
        c.dueText("GOT", Checks.gotText(x, 1), "ABCDEFG");
        x.hang(0);
        c.dueEnd("hung: what it has stays", x, 0, 2, 1, 3, 16, 4, 16, 5, 24, 6, 7, 7, 7, 8, 7, 14, 1);
    }

    /** FRAMES of letters 0 to 5 are sent in TICKS 55 to 57; that of TICK 56 is the 57th that comes on WAY 0. */
    private void promise11LettersPassTwiceWhereLost() {
        TwoModems x = new TwoModems();
        Checks.speak(x, 0, "ABCDEF");
        x.call(0);
        x.go(58);
        Checks.read(x, PLAIN + "h19,0");
        x.go(1);
        c.due("SIGNALS that came on WAY 0", x.count(2), 57);
        c.due("the 57th is HURT", x.count(4), 1);
        c.dueEnd("TICK 58", x, 1, 9, 2, 15, 1);
        c.dueEnd("TICK 58", x, 0, 7, 6, 8, 0, 10, 3);
        Checks.read(x, PLAIN);
        x.go(1);
        c.dueEnd("TICK 59: p 4 is not GOT", x, 1, 9, 2, 15, 2);
        c.dueEnd("TICK 59", x, 0, 7, 6, 8, 2, 10, 0);
        x.go(7);
        c.dueEnd("TICK 66", x, 0, 7, 6, 8, 2, 10, 7);
        c.due("nothing was sent twice", x.count(8), 0);
        x.go(1);
        c.dueEnd("TICK 67: sent again from TOLD on", x, 0, 7, 5, 8, 2, 10, 0, 5, 0);
        c.due("three were sent twice", x.count(8), 3);
        x.go(1);
        c.due("all four", x.count(8), 4);
        x.go(1);
        c.dueEnd("TICK 69", x, 1, 9, 5);
        x.go(1);
        c.dueEnd("TICK 70", x, 1, 9, 6);
        x.go(2);
        c.dueEnd("TICK 72", x, 0, 7, 6, 8, 6, 10, 0);
        c.due("no more was sent twice", x.count(8), 4);
        c.dueText("GOT", Checks.gotText(x, 1), "ABCDEF");
    }

    /** RATE 24, DELAY 8: END 0 is in DATA from TICK 91 on, and what it sent then is TOLD in TICK 107. */
    private void promise11Window() {
        TwoModems x = new TwoModems();
        Checks.read(x, "ffffffff/ffffffff;8");
        for (int k = 0; k < 8; k++) {
            Checks.speak(x, 0, "abcdefghijklmnopqrstuvwxy");
        }
        x.call(0);
        Checks.pass(x, 111);
        c.dueEnd("TICK 110", x, 0, 3, 24, 4, 24, 5, 0, 7, 60, 8, 12);
        c.dueEnd("TICK 110", x, 1, 9, 36);
        Checks.read(x, "ffffffff/ffffffff;8h26,0");
        x.go(1);
        c.due("the 104th, letters 36 to 38, is HURT", x.count(4), 1);
        Checks.read(x, "ffffffff/ffffffff;8");
        x.go(12);
        c.dueEnd("TICK 123", x, 0, 5, 0, 7, 99, 8, 36, 10, 5);
        x.go(1);
        c.dueEnd("TICK 124: not above TOLD + 64", x, 0, 5, 16, 7, 100, 8, 36, 10, 6);
        x.go(1);
        c.dueEnd("TICK 125", x, 0, 5, 24, 7, 100, 8, 36, 10, 7);
        x.go(12);
        c.dueEnd("TICK 137", x, 0, 5, 24, 7, 100, 8, 36, 10, 19);
        c.due("nothing was sent twice", x.count(8), 0);
        x.go(1);
        c.dueEnd("TICK 138", x, 0, 5, 0, 7, 39, 8, 36, 10, 0);
        c.due("three were sent twice", x.count(8), 3);
        Checks.pass(x, 200);
        c.dueEnd("all are TOLD", x, 0, 0, 7, 7, 200, 8, 200, 13, 0);
    }

    /** AGAIN waits until LASTED is 8, however much is lost. */
    private void promise11AgainNotTooSoon() {
        TwoModems x = new TwoModems();
        x.call(0);
        x.go(56);
        Checks.read(x, PLAIN + "h0,1");
        c.due("LASTED is 1 to 7", x.go(7), 1);
        c.dueEnd("TICK 62", x, 0, 0, 7, 1, 8, 13, 0, 15, 127);
        c.due("LASTED is 8", x.go(1), 1);
        c.dueEnd("TICK 63", x, 0, 0, 5, 1, 1, 2, 2, 3, 15, 4, 16, 13, 1, 15, 255);
    }

    private void promise11GivingUpAlone() {
        TwoModems x = new TwoModems();
        Checks.read(x, PLAIN + "h1,1");
        x.call(0);
        c.due("60 TICKS in CALL", x.go(60), 0);
        c.dueEnd("60 TICKS in CALL", x, 0, 0, 1, 1, 60, 12, 0);
        c.due("the 61st", x.go(1), 1);
        c.dueEnd("given up", x, 0, 0, 0, 1, 1, 12, 1);
        c.dueEnd("the other did not", x, 1, 0, 0, 1, 61, 12, 0);
        c.due("REST goes on", x.go(100), 0);
        x = new TwoModems();
        x.call(0);
        x.go(1);
        x.hang(0);
        c.due("CALL comes, ANSWER waits", x.go(61), 1);
        c.dueEnd("60 TICKS in ANSWER", x, 1, 0, 2, 1, 60);
        c.due("the 61st", x.go(1), 1);
        c.dueEnd("given up", x, 1, 0, 0, 12, 1);
        c.dueEnd("what was hung gives nothing up", x, 0, 12, 0);
    }

    /** OFFER 1 on both sides, so nothing is bargained anew. END 1 hangs ahead of TICK 80. */
    private void promise11GivingUpInData() {
        TwoModems x = new TwoModems();
        Checks.read(x, "40000000/04000000;2");
        x.call(0);
        x.go(80);
        c.dueEnd("in DATA", x, 0, 0, 7, 3, 1, 4, 1);
        x.hang(1);
        c.due("SILENCE comes in TICKS 82 to 97", x.go(18), 0);
        c.dueEnd("TICK 97", x, 0, 0, 7, 15, 255, 12, 0, 13, 0);
        c.due("it gives up in TICK 98", x.go(1), 1);
        c.dueEnd("TICK 98", x, 0, 0, 0, 1, 1, 12, 1, 13, 0);
        x = new TwoModems();
        Checks.read(x, "40000000/04000000;2");
        x.call(0);
        x.go(56);
        c.dueEnd("in DATA since TICK 55", x, 0, 0, 7, 1, 1);
        Checks.read(x, "40000000/04000000;2h1,1");
        c.due("SILENCE in TICKS 56 to 71, END 1 is in AGREE", x.go(16), 0);
        c.dueEnd("TICK 71", x, 0, 0, 7, 15, 255);
        c.due("it gives up in TICK 72", x.go(1), 1);
        c.dueEnd("TICK 72", x, 0, 0, 0, 12, 1);
        c.dueEnd("TICK 72", x, 1, 0, 6, 12, 0);
        x = new TwoModems();
        Checks.read(x, "40000000/04000000;2");
        x.call(0);
        x.go(80);
        x.hang(1);
        x.go(17);
        x.call(1);
        c.due("15 of SILENCE, a 16th in TICK 97", x.go(1), 0);
        c.due("in TICK 98 it is given up, though TICK 99 had something", x.go(1), 1);
    }

    private void promise11RateNought() {
        TwoModems x = new TwoModems();
        Checks.read(x, "33333333/88888888;2");
        x.call(0);
        x.go(53);
        c.dueEnd("OFFER of WAY 1 is good", x, 0, 0, 5, 3, 16, 2, 1);
        c.dueEnd("OFFER of WAY 0 is 0", x, 1, 0, 5, 3, 0, 2, 1);
        c.due("END 1 hears OFFER", x.go(1), 1);
        c.dueEnd("REST, as RATE is 0", x, 1, 0, 0, 4, 0, 12, 0, 14, 0);
        c.due("END 0 hears OFFER", x.go(1), 1);
        c.dueEnd("REST, as RATE is 0", x, 0, 0, 0, 4, 0, 12, 0, 14, 0);
    }

    /** Each second SIGNAL on WAY 1 is HURT from TICK 60 on (the 58th is the first of these). */
    private void promise11Again() {
        TwoModems x = new TwoModems();
        x.call(0);
        x.go(60);
        Checks.read(x, PLAIN + "h0,2");
        x.go(1);
        c.due("came on WAY 1", x.count(3), 59);
        c.dueEnd("TICK 60", x, 0, 15, 0);
        x.go(1);
        c.dueEnd("TICK 61", x, 0, 15, 1);
        x.go(2);
        c.dueEnd("TICK 63", x, 0, 15, 5, 13, 0);
        c.due("TICK 64", x.go(1), 0);
        c.due("TICK 65: three are lost, LASTED is 10", x.go(1), 1);
        c.dueEnd("TICK 65", x, 0, 0, 5, 1, 1, 2, 2, 3, 15, 4, 16, 13, 1, 15, 21);
        c.due("TICK 66", x.go(1), 0);
        c.dueEnd("END 1 does not know yet", x, 1, 0, 7, 2, 1);
        c.due("TICK 67: OFFER of g 2 comes", x.go(1), 1);
        c.dueEnd("END 1 in BARGAIN", x, 1, 0, 5, 1, 1, 2, 2, 3, 16, 4, 16, 13, 0);
        c.due("TICK 68: END 1 hears it again", x.go(1), 1);
        c.dueEnd("END 1 in AGREE", x, 1, 0, 6, 2, 2, 4, 15);
        c.due("TICK 69: END 1's OFFER is HURT", x.go(1), 0);
        c.due("TICK 70: AGREE comes", x.go(1), 1);
        c.dueEnd("END 0 in AGREE", x, 0, 0, 6, 2, 2, 4, 15);
        c.due("TICK 71: HURT once more", x.go(1), 0);
        c.due("TICK 72: both into DATA", x.go(1), 2);
        c.dueEnd("END 0 in DATA", x, 0, 0, 7, 14, 2, 15, 0, 5, 15);
        c.dueEnd("END 1 in DATA", x, 1, 0, 7, 14, 2, 15, 0, 5, 15);
    }

    /** END 1 is in AGREE since TICK 53 and hears nothing in TICKS 56 to 64: OFFER of g 2 is the first it hears. */
    private void promise11AgainHeardInAgree() {
        TwoModems x = new TwoModems();
        x.call(0);
        x.go(56);
        Checks.read(x, PLAIN + "h1,1");
        c.due("TICKS 56 to 64: AGAIN of END 0 in TICK 63", x.go(9), 1);
        c.dueEnd("TICK 64", x, 0, 0, 5, 1, 2, 2, 2, 3, 15, 13, 1);
        c.dueEnd("TICK 64", x, 1, 0, 6, 1, 12, 2, 1, 4, 16);
        Checks.read(x, PLAIN);
        c.due("TICK 65", x.go(1), 1);
        c.dueHeard("TICK 65", x, 1, 5, 2, 15, 0, 0);
        c.dueEnd("TICK 65", x, 1, 0, 5, 1, 1, 2, 2, 3, 16, 4, 16);
        c.due("TICK 66", x.go(1), 1);
        c.dueEnd("TICK 66", x, 1, 0, 6, 2, 2, 4, 15);
        c.due("TICK 67", x.go(1), 1);
        c.dueEnd("TICK 67", x, 0, 0, 6, 2, 2, 4, 15);
        c.due("TICKS 68 and 69", x.go(2), 2);
        c.dueEnd("TICK 69", x, 0, 0, 7, 14, 2);
        c.dueEnd("TICK 69", x, 1, 0, 7, 14, 1);
    }

    /** OFFER 2 becomes 1 by AGAIN; then what is lost changes nothing. */
    private void promise11AgainDownToOne() {
        TwoModems x = new TwoModems();
        Checks.read(x, "80000000/80000000;2");
        x.call(0);
        x.go(70);
        c.dueEnd("in DATA", x, 0, 0, 7, 2, 1, 3, 2, 4, 2, 13, 0);
        Checks.read(x, "80000000/80000000;2h0,1");
        c.due("two are lost", x.go(2), 0);
        c.due("three are lost", x.go(1), 1);
        c.dueEnd("AGAIN", x, 0, 0, 5, 2, 2, 3, 1, 4, 2, 13, 1, 15, 7);
        Checks.read(x, "80000000/80000000;2");
        x.go(20);
        c.dueEnd("in DATA", x, 0, 0, 7, 2, 2, 3, 1, 4, 1, 14, 2);
        c.dueEnd("in DATA", x, 1, 0, 7, 2, 2, 3, 2, 4, 1, 14, 2);
        Checks.read(x, "80000000/80000000;2h0,1");
        c.due("three are lost", x.go(3), 0);
        c.dueEnd("no AGAIN", x, 0, 0, 7, 2, 2, 3, 1, 13, 1, 15, 7);
    }

    /** Both hang ahead of TICK 57 and meet again 57 TICKS later than the first time. */
    private void promise11TheSecondTime() {
        TwoModems x = new TwoModems();
        Checks.speak(x, 0, "ABCDEF");
        Checks.speak(x, 1, "UVWXYZ");
        x.echo(0, 2, 19);
        x.call(0);
        x.go(57);
        c.dueEnd("TICK 56", x, 0, 0, 7, 5, 0, 7, 4, 8, 0, 9, 0, 10, 1, 14, 1);
        c.dueEnd("TICK 56", x, 1, 0, 7, 7, 2, 8, 0, 9, 0, 14, 1);
        int learnt = x.learnt(0, 2);
        c.due("something is learnt", learnt > 200 ? 1 : 0, 1);
        c.due("hang 0", x.hang(0), 7);
        c.due("hang 1", x.hang(1), 7);
        x.echo(0, 2, 0);
        x.call(0);
        x.go(1);
        c.dueHeard("FRAMES are still on their way", x, 1, 7, 1, 0, 2, 0);
        x.go(17);
        c.due("LEARNT stays until TRAIN", x.learnt(0, 2), learnt);
        x.go(1);
        for (int tap = 0; tap < 4; tap++) {
            c.due("LEARNT is 0 in TRAIN", x.learnt(0, tap), 0);
        }
        x.go(32);
        c.dueEnd("in BARGAIN", x, 0, 0, 5, 2, 1, 3, 16, 11, 0, 7, 4, 10, 1);
        x.go(5);
        c.dueEnd("TICK 112: NEXT was TOLD", x, 0, 0, 7, 5, 0, 7, 2, 8, 0, 10, 0, 14, 2);
        c.due("two of END 0 were sent twice", x.count(8), 2);
        x.go(1);
        c.due("four of END 0, two of END 1", x.count(8), 6);
        x.go(30);
        c.due("no more", x.count(8), 6);
        c.dueText("GOT", Checks.gotText(x, 1), "ABCDEF");
        c.dueText("GOT", Checks.gotText(x, 0), "UVWXYZ");
        x.hang(0);
        x.go(3);
        c.dueHeard("REST sends SILENCE", x, 1, 0, 0, 0, 0, 0);
    }

    /** Nothing of an ECHO is known that comes behind TRAIN: 4 TAPS of 100 take 400 / 20 from each BAND. */
    private void promise11RemainsLowersTheOffer() {
        TwoModems x = new TwoModems();
        Checks.read(x, "ffffffff/ffffffff;2");
        x.call(0);
        x.go(50);
        x.echo(0, 0, 50);
        x.echo(0, 3, -29);
        x.go(1);
        c.dueEnd("REMAINS 79 takes 3", x, 0, 11, 79, 3, 24);
        x = new TwoModems();
        Checks.read(x, "fffff000/fedcba98;2");
        x.call(0);
        x.go(50);
        x.echo(0, 1, -80);
        x.go(1);
        c.dueEnd("REMAINS 80 takes 4: 11, 10, 9, 8, 7, 6, 5, 4", x, 0, 11, 80, 3, 12);
        x.go(1);
        x.echo(1, 0, 100);
        x.echo(1, 1, 100);
        x.echo(1, 2, 100);
        x.echo(1, 3, -100);
        x.go(1);
        c.dueEnd("REMAINS 400 takes 20: none is left", x, 1, 11, 400, 3, 0);
        x.echo(0, 1, 0);
        c.dueEnd("REMAINS is as it was", x, 0, 11, 80);
    }

    private void promise11QualitySteps() {
        String[] qualities = {"00000003", "00000004", "00000007", "00000008", "0000000b", "0000000c", "0000000f",
            "034578bc"};
        int[] offers = {0, 1, 1, 2, 2, 3, 3, 10};
        for (int k = 0; k < offers.length; k++) {
            TwoModems x = new TwoModems();
            Checks.read(x, "cccccccc/" + qualities[k] + ";1");
            x.call(0);
            x.go(47);
            c.dueEnd("QUALITY " + qualities[k], x, 0, 0, 5, 3, offers[k]);
        }
    }

    private void promise12Band() {
        TwoModems x = new TwoModems();
        for (int end : WRONG_ENDS) {
            c.due("band of end " + end, x.band(end, 0), UNKNOWN);
        }
        c.due("band -1", x.band(0, -1), UNKNOWN);
        c.due("band 8", x.band(1, 8), UNKNOWN);
        Checks.read(x, "12345678/9abcdef0;2");
        x.call(0);
        x.go(6);
        c.due("nothing is noted", x.band(1, 0), 0);
        x.go(1);
        c.due("what brings it into PROBE is noted, too", x.band(1, 0), 1);
        c.due("one alone", x.band(1, 1), 0);
        x.go(20);
        for (int band = 0; band < 8; band++) {
            c.due("END 1 notes WAY 0", x.band(1, band), band + 1);
            c.due("END 0 notes WAY 1", x.band(0, band), (band + 9) % 16);
        }
        x.hang(0);
        x.hang(1);
        x.go(10);
        c.due("it stays noted", x.band(1, 7), 8);
        x.call(0);
        x.go(5);
        c.due("coming into PROBE notes 0", x.band(0, 0), 0);
    }

    /** PROBE 0 of END 0 is sent in TICK 4 and comes in TICK 6, PROBE 1 in TICK 7. */
    private void promise12BandAsItIsWhenHeard() {
        TwoModems x = new TwoModems();
        x.call(0);
        x.go(7);
        Checks.read(x, "55555555/55555555;2h8,0");
        c.due("go", x.go(1), 0);
        c.due("BAND 0 as it was", x.band(1, 0), 8);
        c.due("BAND 1 as it is now", x.band(1, 1), 5);
        x.go(1);
        c.due("BAND 2", x.band(1, 2), 5);
        x.go(5);
        c.due("came on WAY 0", x.count(2), 12);
        c.due("one was HURT", x.count(4), 1);
        c.due("BAND 3, the 8th that came, was HURT", x.band(1, 3), 0);
        c.due("BAND 4 was not", x.band(1, 4), 5);
    }

    private void promise13Learnt() {
        TwoModems x = new TwoModems();
        for (int end : WRONG_ENDS) {
            c.due("learnt of end " + end, x.learnt(end, 0), UNKNOWN);
        }
        c.due("learnt -1", x.learnt(0, -1), UNKNOWN);
        c.due("learnt 4", x.learnt(1, 4), UNKNOWN);
        x.echo(0, 0, 60);
        x.echo(0, 1, -30);
        x.call(0);
        x.go(18);
        c.due("not yet in TRAIN", x.learnt(0, 0), 0);
        // signs of TRAIN from its beginning: + - - + - + + - - +
        x.go(1);
        dueLearnt(x, 120, 0, 0, 0); // E = 960
        x.go(1);
        // E = -(960 - 120) + (-480) = -1320: TAP 0 with -, TAP 1 with +
        dueLearnt(x, 285, -165, 0, 0);
        x.go(1);
        // signs - - +: E = -(675) + 315 + 0 = -360
        dueLearnt(x, 330, -120, -45, 0);
        x.go(1);
        // signs + - - +: E = 630 + 360 - 45 + 0 = 945; 945 / 8 = 118
        dueLearnt(x, 448, -238, -163, 118);
        x.go(1);
        // signs - + - -: E = -512 - 242 - 163 + 118 = -799; 799 / 8 = 99
        dueLearnt(x, 547, -337, -64, 217);
        c.due("the other END has no ECHO", x.learnt(1, 0), 0);
        x.hang(0);
        x.go(5);
        dueLearnt(x, 547, -337, -64, 217);
    }

    private void dueLearnt(TwoModems x, int... want) {
        for (int tap = 0; tap < 4; tap++) {
            c.due("learnt(0, " + tap + ")", x.learnt(0, tap), want[tap]);
        }
    }

    private void promise14Got() {
        TwoModems x = new TwoModems();
        Checks.speak(x, 0, "a~ Z");
        Checks.speak(x, 1, "9");
        x.call(1);
        c.due("nothing is GOT", x.got(0, 0), UNKNOWN);
        x.go(80);
        String want = "a~ Z";
        for (int place = 0; place < 4; place++) {
            c.due("got(1, " + place + ")", x.got(1, place), want.charAt(place));
        }
        c.due("got(0, 0)", x.got(0, 0), '9');
        c.due("got behind the last", x.got(1, 4), UNKNOWN);
        c.due("got behind the last", x.got(0, 1), UNKNOWN);
        c.due("got -1", x.got(1, -1), UNKNOWN);
        c.due("got least", x.got(1, Integer.MIN_VALUE), UNKNOWN);
        c.due("got most", x.got(1, Integer.MAX_VALUE), UNKNOWN);
        for (int end : WRONG_ENDS) {
            c.due("got of end " + end, x.got(end, 0), UNKNOWN);
        }
        x.hang(0);
        x.hang(1);
        c.due("GOT stays", x.got(1, 3), 'Z');
        StringBuilder all = new StringBuilder();
        x = new TwoModems();
        String text = "0123456789abcdefghijABCDEFGHI";
        for (int k = 0; k < 7; k++) {
            String next = text.substring(0, Math.min(29, 200 - all.length()));
            Checks.speak(x, 1, next);
            all.append(next);
        }
        x.call(0);
        Checks.pass(x, 400);
        c.dueText("all 200 are GOT", Checks.gotText(x, 0), all.toString());
    }

    private void promise15Heard() {
        TwoModems x = new TwoModems();
        for (int end : WRONG_ENDS) {
            c.due("heard of end " + end, x.heard(end, 0), UNKNOWN);
            c.due("heard of end first", x.heard(end, 5), UNKNOWN);
        }
        c.due("heard what 5", x.heard(0, 5), OUTSIDE);
        c.due("heard what -1", x.heard(1, -1), OUTSIDE);
        Checks.speak(x, 0, "ABC");
        Checks.speak(x, 1, "DEFG");
        x.call(0);
        x.go(2);
        c.dueHeard("TICK 1", x, 1, 0, 0, 0, 0, 0);
        x.go(1);
        c.dueHeard("TICK 2", x, 1, 1, 0, 0, 0, 0);
        x.go(2);
        c.dueHeard("TICK 4", x, 0, 2, 0, 0, 0, 0);
        x.go(9);
        c.dueHeard("TICK 13: PROBE 7", x, 1, 3, 7, 0, 0, 0);
        x.go(1);
        c.dueHeard("TICK 14: SILENCE of PROBE", x, 1, 0, 0, 0, 0, 0);
        x.go(6);
        c.dueHeard("TICK 20: TRAIN", x, 1, 4, 0, 0, 0, 0);
        x.go(33);
        c.dueHeard("TICK 53: OFFER", x, 1, 5, 1, 16, 0, 0);
        x.go(2);
        c.dueHeard("TICK 55: AGREE", x, 0, 6, 1, 16, 0, 0);
        x.go(2);
        c.dueHeard("TICK 57: FRAME", x, 1, 7, 1, 0, 2, 0);
        x.go(1);
        c.dueHeard("TICK 58: FRAME", x, 1, 7, 1, 2, 1, 0);
        c.dueHeard("TICK 58: FRAME", x, 0, 7, 1, 0, 2, 0);
        x.go(1);
        c.dueHeard("TICK 59: FRAME", x, 0, 7, 1, 2, 2, 2);
        x.go(1);
        c.dueHeard("TICK 60: FRAME", x, 0, 7, 1, 4, 0, 3);
        c.dueHeard("TICK 60: FRAME", x, 1, 7, 1, 3, 0, 2);
        Checks.read(x, PLAIN + "h1,0");
        x.go(1);
        c.dueHeard("HURT", x, 1, 0, 0, 0, 0, 0);
        x = new TwoModems();
        x.call(0);
        x.call(1);
        x.go(61);
        c.dueEnd("given up", x, 0, 0, 0, 12, 1);
        c.dueHeard("in the TICK of giving up", x, 0, 1, 0, 0, 0, 0);
        c.dueHeard("in the TICK of giving up", x, 1, 1, 0, 0, 0, 0);
    }

    private void promise16About() {
        TwoModems x = new TwoModems();
        int[] wrong = {-1, 4, 9, 18, 19, 28, 29, Integer.MIN_VALUE, Integer.MAX_VALUE};
        for (int what : wrong) {
            c.due("about " + what, x.about(what), OUTSIDE);
        }
        Checks.read(x, "01234567/fedcba98;5h3,4");
        c.due("about 0", x.about(0), 5);
        c.due("about 1", x.about(1), 3);
        c.due("about 2", x.about(2), 4);
        for (int band = 0; band < 8; band++) {
            c.due("about 10 on", x.about(10 + band), band);
            c.due("about 20 on", x.about(20 + band), 15 - band);
        }
        for (int k = 1; k <= 8; k++) {
            x.go(1);
            c.due("SILENCE is on its way, too", x.about(3), 2 * Math.min(k, 5));
        }
    }

    private void promise16OneOfTwoInOneTick() {
        TwoModems x = new TwoModems();
        Checks.read(x, "88888888/88888888;4");
        x.go(2);
        c.due("sent in TICKS 0 and 1", x.about(3), 4);
        Checks.read(x, "88888888/88888888;3");
        x.go(1);
        c.due("that of TICK 2 comes with that of TICK 1", x.about(3), 4);
        x.go(1);
        c.due("TICK 3", x.about(3), 6);
        x.go(1);
        c.due("TICK 4: one came, one was sent", x.about(3), 6);
        c.due("none came more", x.count(2), 1);
        Checks.read(x, "88888888/88888888;1");
        x.go(1);
        c.due("TICK 5 takes the place of that of TICK 3", x.about(3), 4);
        c.due("TICK 5: of two one came", x.count(2), 2);
        x.go(3);
        c.due("all came", x.about(3), 2);
        c.due("in each TICK one", x.count(3), 5);
    }

    private void promise17Count() {
        TwoModems x = new TwoModems();
        int[] wrong = {-1, 9, Integer.MIN_VALUE, Integer.MAX_VALUE};
        for (int what : wrong) {
            c.due("count " + what, x.count(what), OUTSIDE);
        }
        Checks.read(x, "88888888/88888888;3h4,5");
        Checks.read(x, "88888888/88888888;3h4,5");
        Checks.write(x, "88888888");
        x.line();
        x.call(1);
        int changes = x.go(20) + x.go(3);
        int[] want = {8, 23, 20, 20, 5, 4, changes, 2, 0};
        for (int what = 0; what < want.length; what++) {
            c.due("count " + what, x.count(what), want[what]);
        }
        c.due("changes of PHASE", changes > 2 ? 1 : 0, 1);
    }

    private void promise17HurtSilence() {
        TwoModems x = new TwoModems();
        x.go(3);
        c.due("one came", x.count(2), 1);
        Checks.read(x, PLAIN + "h2,3");
        x.go(1);
        c.due("SILENCE may be HURT", x.count(4), 1);
        c.due("the second is not HURT by 3", x.count(5), 0);
        x.go(1);
        c.due("the third is", x.count(5), 1);
        c.due("but not by 2", x.count(4), 1);
        x.go(96);
        c.due("99 came", x.count(2), 99);
        c.due("49 were HURT", x.count(4), 49);
        c.due("33 were HURT", x.count(5), 33);
    }

    private long digestByHand(TwoModems x, int[] taps, String page) {
        long h = 1613;
        for (int end = 0; end < 2; end++) {
            for (int what = 0; what < 16; what++) {
                h = 31 * h + x.end(end, what);
            }
            for (int band = 0; band < 8; band++) {
                h = 31 * h + x.band(end, band);
            }
            for (int tap = 0; tap < 4; tap++) {
                h = 31 * h + x.learnt(end, tap);
            }
            for (int tap = 0; tap < 4; tap++) {
                h = 31 * h + taps[4 * end + tap];
            }
            for (int what = 0; what < 5; what++) {
                h = 31 * h + x.heard(end, what);
            }
            for (int place = 0; place < x.end(end, 9); place++) {
                h = 31 * h + x.got(end, place);
            }
        }
        int[] whats = {0, 1, 2, 3, 10, 11, 12, 13, 14, 15, 16, 17, 20, 21, 22, 23, 24, 25, 26, 27};
        for (int what : whats) {
            h = 31 * h + x.about(what);
        }
        for (int place = 0; place < page.length(); place++) {
            h = 31 * h + page.charAt(place);
        }
        for (int what = 0; what < 9; what++) {
            h = 31 * h + x.count(what);
        }
        return h;
    }

    private void promise18Digest() {
        TwoModems x = new TwoModems();
        c.due("digest of a new one", x.digest(), digestByHand(x, new int[8], ""));
        c.due("digest changes nothing", x.digest(), digestByHand(x, new int[8], ""));
        int[] taps = {1, -2, 3, -4, 50, -60, 70, -80};
        for (int k = 1; k <= 10; k++) {
            x = new TwoModems();
            for (int tap = 0; tap < 8; tap++) {
                x.echo(tap / 4, tap % 4, taps[tap]);
            }
            Checks.read(x, "fedcba98/89abcdef;3h9,7");
            Checks.speak(x, 0, "Two modems");
            Checks.speak(x, 1, "shake hands");
            Checks.write(x, "page");
            x.call(0);
            Checks.pass(x, 20 * k);
            c.due("digest on the way " + k, x.digest(), digestByHand(x, taps, "page"));
        }
    }
}
