import java.math.BigInteger;
import java.util.ArrayList;
import java.util.List;
import java.util.function.LongSupplier;

/**
 * The bounds that promises 1 to 18 name: the last value that is taken and the first that is not, the empty and
 * the full, and what is refused (answered as told; the digest is the same before and behind it).
 */
public final class PromisesBoundsTest {
    private static final int UNKNOWN = Checks.UNKNOWN, OUTSIDE = Checks.OUTSIDE, STATE = Checks.STATE,
        FULL = Checks.FULL;
    private static final int LEAST = Integer.MIN_VALUE, MOST = Integer.MAX_VALUE;
    private static final String PLAIN = Checks.PLAIN;
    private static final String THIRTY = "abcdefghijklmnopqrstuvwxyz0123";

    private final Checks c = new Checks();

    public static void main(String[] args) throws ReflectiveOperationException {
        PromisesBoundsTest t = new PromisesBoundsTest();
        t.c.runAll(t);
        t.c.finish();
    }

    /** An object in which something is everywhere: letters, an ECHO, losses, a LINE, DATA at both ENDS. */
    private static TwoModems busy() {
        TwoModems x = Checks.on("fedcba98/89abcdef;3h9,7");
        x.echo(0, 1, -40);
        x.echo(1, 3, 25);
        Checks.speak(x, 0, "Two modems");
        Checks.speak(x, 1, "shake hands");
        x.call(0);
        x.go(90);
        Checks.write(x, "page");
        return x;
    }

    /** An object whose END 0 has GOT all the 200 letters that END 1 may have to send. */
    private static TwoModems full() {
        TwoModems x = new TwoModems();
        say200(x, 1);
        x.call(0);
        Checks.pass(x, 300);
        return x;
    }

    private static void say200(TwoModems x, int end) {
        for (int k = 0; k < 6; k++) {
            Checks.speak(x, end, THIRTY);
        }
        Checks.speak(x, end, THIRTY.substring(0, 20));
    }

    private void refusedEnds(String told, int want, EndCall call) {
        TwoModems x = busy();
        for (int end : Checks.WRONG_ENDS) {
            c.refused(told + " of end " + end, x, () -> call.of(x, end), want);
        }
    }

    private interface EndCall {
        int of(TwoModems x, int end);
    }

    // ---- Promise 1

    /** "Both ENDS in REST." */
    void promise1BothInRest() {
        TwoModems x = new TwoModems();
        c.dueEnd("new", x, 0, 0, 0, 1, 0);
        c.dueEnd("new", x, 1, 0, 0, 1, 0);
        c.refused("hang 0", x, () -> x.hang(0), STATE);
        c.refused("hang 1", x, () -> x.hang(1), STATE);
    }

    /** A new object is as new, whatever others went through, and these don't feel it. */
    void promise1NewOnesAreApart() {
        long fresh = new TwoModems().digest();
        TwoModems x = busy();
        long before = x.digest();
        TwoModems y = new TwoModems();
        c.due("new behind a busy one", y.digest(), fresh);
        busy().go(50);
        c.due("new beside a busy one", y.digest(), fresh);
        c.due("busy beside a busy one", x.digest(), before);
    }

    // ---- Promise 2

    /** "OUTSIDE: code (32 to 126)" */
    void promise2CodesAre32To126() {
        for (int code = 32; code <= 126; code++) {
            TwoModems x = new TwoModems();
            c.due("letter " + code, x.letter(code), 1);
            c.due("letter " + code + " again", x.letter(code), 2);
        }
        TwoModems x = Checks.withPage("abc");
        for (int code : new int[] {31, 127, 0, -1, -32, 128, 255, 256 + 65, 65536 + 65, LEAST, MOST}) {
            c.refused("letter " + code, x, () -> x.letter(code), OUTSIDE);
        }
    }

    /** "how many THE PAGE has"; "FULL: above 30" */
    void promise2ThePageHas30AtMost() {
        TwoModems x = new TwoModems();
        for (int k = 1; k <= 30; k++) {
            c.due("letter " + k, x.letter(32 + k), k);
        }
        for (int code : new int[] {32, 65, 126}) {
            c.refused("the 31st", x, () -> x.letter(code), FULL);
        }
        c.due("count", x.count(0), 30);
        x.blank();
        c.due("there is room again", x.letter(32), 1);
    }

    /** Of OUTSIDE and FULL the first as told: OUTSIDE. */
    void promise2OutsideAheadOfFull() {
        TwoModems x = Checks.withPage(THIRTY);
        for (int code : new int[] {31, 127, LEAST, MOST}) {
            c.refused("letter " + code + " on a full PAGE", x, () -> x.letter(code), OUTSIDE);
        }
    }

    // ---- Promise 3

    /** "THE PAGE is empty: how many letters it had": none, one, 29, 30. */
    void promise3BlankOf0To30() {
        for (int size : new int[] {0, 1, 29, 30}) {
            TwoModems x = Checks.withPage(THIRTY.substring(0, size));
            c.due("blank of " + size, x.blank(), size);
            c.due("empty", x.count(0), 0);
            c.due("a new object's digest", x.digest(), new TwoModems().digest());
            c.due("blank of none", x.blank(), 0);
        }
    }

    // ---- Promise 4

    /** "how many letters it has, if there is none": the empty PAGE, each LINE so far, the longest one. */
    void promise4NoFaultInALineSoFar() {
        for (String line : new String[] {"09af1520/cdef0123;8h50,50", PLAIN + "h0,0",
            PLAIN + "h9,10", PLAIN + "h10,9"}) {
            for (int size = 0; size <= line.length(); size++) {
                TwoModems x = Checks.withPage(line.substring(0, size));
                c.refused("fault of " + line.substring(0, size), x, x::fault, size);
            }
        }
    }

    /** "The place .. of the first letter .. that no LINE has there, behind those ahead of it": each code at each place. */
    void promise4EachCodeAtEachPlace() {
        String figures = "0123456789abcdef";
        String head = "01234567/89abcdef;";
        for (int place = 0; place < 18; place++) {
            String taken = place == 8 ? "/" : place == 17 ? ";" : figures;
            dueTaken(head.substring(0, place), taken);
        }
        dueTaken(head, "12345678");
        dueTaken(head + "1", "h");
        dueTaken(head + "8", "h");
        String h = head + "4h";
        String digits = "0123456789";
        dueTaken(h, digits);
        for (String number : new String[] {"1", "2", "3", "4"}) {
            dueTaken(h + number, digits + ",");
            dueTaken(h + "7," + number, digits);
        }
        dueTaken(h + "5", "0,");
        dueTaken(h + "7,5", "0");
        for (String number : new String[] {"0", "6", "7", "8", "9", "10", "19", "20", "49", "50"}) {
            dueTaken(h + number, ",");
            dueTaken(h + number + ",", digits);
            dueTaken(h + "7," + number, "");
        }
        dueTaken(h + "50,50", "");
    }

    private void dueTaken(String ahead, String taken) {
        for (int code = 32; code <= 126; code++) {
            TwoModems x = Checks.withPage(ahead);
            x.letter(code);
            int want = taken.indexOf(code) >= 0 ? ahead.length() + 1 : ahead.length();
            c.due("fault of " + ahead + (char) code, x.fault(), want);
        }
    }

    /** "the first letter": a fault at each place, with other faults behind it, on a full PAGE. */
    void promise4TheFirstFaultOfAFullPage() {
        String line = "01234567/89abcdef;8h50,50";
        for (int place = 0; place <= line.length(); place++) {
            String text = line.substring(0, place) + "~~~~~~~~~~~~~~~~~~~~~~~~~~~~~~".substring(place);
            TwoModems x = Checks.withPage(text);
            c.due("a full PAGE", x.count(0), 30);
            c.refused("fault of " + text, x, x::fault, place);
        }
    }

    /** "(A number that is too great is wrong at the figure by which it becomes that.)" */
    void promise4ANumberTooGreat() {
        String[] texts = {"h51", "h59", "h60", "h99", "h500", "h7,51", "h7,60", "h7,100", "h7,500", "h50,501"};
        int[] faults = {21, 21, 21, 21, 22, 23, 23, 24, 24, 25};
        for (int k = 0; k < texts.length; k++) {
            c.due("fault of " + texts[k], Checks.withPage(PLAIN + texts[k]).fault(), faults[k]);
        }
        c.due("DELAY 9", Checks.withPage("88888888/88888888;9").fault(), 18);
    }

    // ---- Promise 5

    /** "STATE: it is none": the empty PAGE, each LINE that has not come to its end, what has a fault, a full PAGE. */
    void promise5StateIfItIsNone() {
        String line = "01234567/89abcdef;8h50,10";
        for (int size = 0; size <= line.length(); size++) {
            String text = line.substring(0, size);
            TwoModems x = Checks.withPage(text);
            if (size == 19 || size >= 24) {
                c.due("line of " + text, x.line(), 8);
                c.due("THE PAGE is empty", x.count(0), 0);
                c.due("one was read", x.count(7), 1);
            } else {
                c.refused("line of " + text, x, x::line, STATE);
            }
        }
        for (String text : new String[] {THIRTY, line + " ", line + "00000", PLAIN + "h5", PLAIN + "h5,", PLAIN + "h,5",
            PLAIN + "h5,05", PLAIN + ",5", " " + PLAIN, PLAIN.substring(1)}) {
            TwoModems x = busy();
            x.blank();
            Checks.write(x, text);
            c.refused("line of " + text, x, x::line, STATE);
        }
    }

    /** "DELAY; THE PAGE is empty then" */
    void promise5EachDelay() {
        TwoModems x = new TwoModems();
        for (int delay = 1; delay <= 8; delay++) {
            c.due("line", Checks.read(x, "00000000/ffffffff;" + delay + "h0,50"), delay);
            c.due("THE PAGE is empty", x.count(0), 0);
            c.due("read so far", x.count(7), delay);
            c.refused("an empty PAGE", x, x::line, STATE);
        }
    }

    /** "(what is on its way stays so)": eight SIGNALS on each WAY come, though DELAY and HURT are others then. */
    void promise5WhatIsOnItsWayStays() {
        TwoModems x = Checks.on("88888888/88888888;8");
        x.call(0);
        x.go(8);
        c.due("on the WAYS", x.about(3), 16);
        x.hang(0);
        Checks.read(x, "00000000/00000000;8h0,0");
        c.due("on the WAYS", x.about(3), 16);
        for (int k = 0; k < 8; k++) {
            x.go(1);
            c.dueHeard("CALL of TICK " + k, x, 1, 1);
        }
        x.go(1);
        c.dueHeard("of TICK 8", x, 1, 0);
    }

    // ---- Promise 6

    /** "Letters of THE PAGE (whichever)": all codes. */
    void promise6LettersAreWhichever() {
        TwoModems x = new TwoModems();
        for (int code = 32; code <= 126; code++) {
            x.letter(code);
            if (code % 24 == 0) {
                c.due("say", x.say(0), code - 31);
            }
        }
        c.due("say", x.say(0), 95);
        x.call(1);
        x.go(100);
        x.go(50);
        for (int k = 0; k < 95; k++) {
            c.due("got", x.got(1, k), 32 + k);
        }
        c.due("got behind the last", x.got(1, 95), UNKNOWN);
    }

    /** "how many it has to send and sent ever": an empty PAGE adds none. */
    void promise6AnEmptyPageAddsNone() {
        TwoModems x = new TwoModems();
        c.refused("say nothing", x, () -> x.say(0), 0);
        Checks.speak(x, 0, "ab");
        c.refused("say nothing", x, () -> x.say(0), 2);
        c.refused("say nothing", x, () -> x.say(1), 0);
        x.call(0);
        x.go(80);
        c.due("sent ones count, too", Checks.speak(x, 0, "c"), 3);
    }

    /** "FULL: there would be more than 200" */
    void promise6NoMoreThan200() {
        TwoModems x = new TwoModems();
        for (int k = 1; k <= 6; k++) {
            c.due("say", Checks.speak(x, 1, THIRTY), 30 * k);
        }
        Checks.write(x, THIRTY.substring(0, 21));
        c.refused("180 and 21", x, () -> x.say(1), FULL);
        c.due("the other END has room", x.say(0), 21);
        c.due("180 and 19", Checks.speak(x, 1, THIRTY.substring(0, 19)), 199);
        Checks.write(x, "xy");
        c.refused("199 and 2", x, () -> x.say(1), FULL);
        x.blank();
        c.due("199 and 1", Checks.speak(x, 1, "x"), 200);
        c.refused("200 and none", x, () -> x.say(1), 200);
        Checks.write(x, "y");
        c.refused("200 and 1", x, () -> x.say(1), FULL);
        x.blank();
        Checks.write(x, THIRTY);
        c.refused("200 and 30", x, () -> x.say(1), FULL);
        c.due("21 and 30", x.say(0), 51);
    }

    /** 200 and what was sent: letters that are TOLD make no room. */
    void promise6SentLettersMakeNoRoom() {
        TwoModems x = full();
        c.dueEnd("all are TOLD", x, 1, 6, 200, 7, 200, 8, 200);
        Checks.write(x, "y");
        c.refused("one more", x, () -> x.say(1), FULL);
        c.dueEnd("the other END", x, 0, 9, 200);
    }

    /** "UNKNOWN: end", ahead of FULL */
    void promise6UnknownAheadOfFull() {
        refusedEnds("say", UNKNOWN, TwoModems::say);
        TwoModems x = new TwoModems();
        say200(x, 0);
        say200(x, 1);
        Checks.write(x, "z");
        for (int end : Checks.WRONG_ENDS) {
            c.refused("say of " + end + " where both are full", x, () -> x.say(end), UNKNOWN);
        }
        c.refused("say", x, () -> x.say(0), FULL);
        c.refused("say", x, () -> x.say(1), FULL);
    }

    // ---- Promise 7

    /** "UNKNOWN: end, tap (0 to 3)" */
    void promise7TapsAre0To3() {
        TwoModems x = busy();
        for (int end = 0; end < 2; end++) {
            for (int tap : new int[] {-1, 4, LEAST, MOST}) {
                int e = end;
                c.refused("echo of tap " + tap, x, () -> x.echo(e, tap, 5), UNKNOWN);
            }
            for (int tap = 0; tap < 4; tap++) {
                x.echo(end, tap, 10 * end + tap);
            }
        }
        for (int end = 0; end < 2; end++) {
            for (int tap = 0; tap < 4; tap++) {
                int e = end, t = tap;
                c.refused("echo as it was", x, () -> x.echo(e, t, 10 * e + t), 10 * end + tap);
            }
        }
        refusedEnds("echo", UNKNOWN, (y, end) -> y.echo(end, 0, 0));
    }

    /** "OUTSIDE: v (-100 to 100)" */
    void promise7TapsAreOfMinus100To100() {
        TwoModems x = busy();
        for (int end = 0; end < 2; end++) {
            for (int tap = 0; tap < 4; tap++) {
                x.echo(end, tap, -100);
                c.due("echo", x.echo(end, tap, 100), -100);
                c.due("echo", x.echo(end, tap, -99), 100);
                for (int v : new int[] {-101, 101, LEAST, MOST}) {
                    int e = end, t = tap;
                    c.refused("echo of " + v, x, () -> x.echo(e, t, v), OUTSIDE);
                }
                c.due("echo", x.echo(end, tap, 99), -99);
            }
        }
    }

    /** Of UNKNOWN and OUTSIDE the first as told: UNKNOWN. */
    void promise7UnknownAheadOfOutside() {
        for (int v : new int[] {-101, 101, LEAST, MOST}) {
            refusedEnds("echo", UNKNOWN, (y, end) -> y.echo(end, 3, v));
            refusedEnds("echo", UNKNOWN, (y, end) -> y.echo(end, 4, v));
            TwoModems x = busy();
            c.refused("echo of tap -1", x, () -> x.echo(0, -1, v), UNKNOWN);
            c.refused("echo of tap 4", x, () -> x.echo(1, 4, v), UNKNOWN);
        }
    }

    // ---- Promises 8 and 9

    /** An object whose END 1 is in a PHASE; that of END 0 is told behind it. */
    private static TwoModems inPhase(int phase) {
        int[] ticks = {0, 0, 3, 10, 30, 53, 55, 60};
        TwoModems x = new TwoModems();
        if (phase == 1) {
            x.call(1);
        } else if (phase > 0) {
            x.call(0);
            x.go(ticks[phase]);
        }
        return x;
    }

    /** "An END goes to CALL: 1"; "STATE: it is not in REST": each of the seven other PHASES. */
    void promise8CallFromRestAlone() {
        for (int phase = 0; phase < 8; phase++) {
            TwoModems x = inPhase(phase);
            c.dueEnd("PHASE", x, 1, 0, phase);
            if (phase == 0) {
                c.due("call", x.call(1), 1);
                c.dueEnd("called", x, 1, 0, 1, 1, 0);
            }
            c.refused("call in PHASE " + phase, x, () -> x.call(1), STATE);
        }
    }

    /** "UNKNOWN: end", ahead of STATE, which both ENDS would be */
    void promise8UnknownAheadOfState() {
        refusedEnds("call", UNKNOWN, TwoModems::call);
    }

    /** "An END goes to REST: which PHASE it was in": 1 to 7; "STATE: it is in REST" */
    void promise9HangFromAllButRest() {
        for (int phase = 0; phase < 8; phase++) {
            TwoModems x = inPhase(phase);
            if (phase > 0) {
                c.due("hang", x.hang(1), phase);
                c.dueEnd("hung", x, 1, 0, 0, 1, 0, 12, 0);
            }
            c.refused("hang in REST", x, () -> x.hang(1), STATE);
        }
    }

    /** "UNKNOWN: end", ahead of STATE */
    void promise9UnknownAheadOfState() {
        refusedEnds("hang", UNKNOWN, TwoModems::hang);
        TwoModems x = new TwoModems();
        for (int end : Checks.WRONG_ENDS) {
            c.refused("hang where both are in REST", x, () -> x.hang(end), UNKNOWN);
        }
    }

    // ---- Promise 10

    /** "So many TICKS (1 to 100) .. OUTSIDE." */
    void promise10Takes1To100Ticks() {
        TwoModems x = busy();
        for (int n : new int[] {0, -1, 101, 1000, LEAST, MOST}) {
            c.refused("go " + n, x, () -> x.go(n), OUTSIDE);
        }
        int ticks = x.count(1);
        for (int n : new int[] {1, 2, 99, 100}) {
            x.go(n);
            ticks += n;
            c.due("go " + n, x.count(1), ticks);
        }
    }

    /** "how often any END changed its PHASE": none, one, two in one TICK, all of a handshake at once. */
    void promise10CountsAllChanges() {
        TwoModems x = new TwoModems();
        c.due("none", x.go(100), 0);
        x.call(0);
        c.due("none", x.go(2), 0);
        c.due("one", x.go(1), 1);
        c.due("the rest of eleven", x.go(100), 10);
        x = new TwoModems();
        x.call(0);
        x.call(1);
        x.go(60);
        c.due("both give up in one TICK", x.go(1), 2);
        c.due("count", x.count(6), 2);
    }

    // ---- Promise 11

    /** "what = 0 PHASE .. 15 LOSSES. UNKNOWN: end; OUTSIDE." */
    void promise11WhatIs0To15() {
        TwoModems x = busy();
        for (int end = 0; end < 2; end++) {
            for (int what = 0; what < 16; what++) {
                c.due("end " + what + " is told", x.end(end, what) >= 0 ? 1 : 0, 1);
            }
            for (int what : new int[] {-1, 16, 17, 100, LEAST, MOST}) {
                int e = end;
                c.refused("end " + what, x, () -> x.end(e, what), OUTSIDE);
            }
        }
        for (int what : new int[] {0, 15, -1, 16, LEAST, MOST}) {
            refusedEnds("end " + what, UNKNOWN, (y, end) -> y.end(end, what));
        }
    }

    /** "1 LASTED (as for the TICK that comes next; 0 behind call(), hang())" */
    void promise11LastedBehindCallAndHang() {
        TwoModems x = new TwoModems();
        x.go(7);
        c.dueEnd("7 in REST", x, 0, 1, 7);
        x.call(0);
        c.dueEnd("called", x, 0, 1, 0);
        x.hang(0);
        c.dueEnd("hung", x, 0, 1, 0);
        x.go(1);
        c.dueEnd("one TICK", x, 0, 1, 1);
        c.dueEnd("the other END", x, 1, 1, 8);
        x.call(0);
        x.go(5);
        x.hang(0);
        c.dueEnd("hung in PROBE", x, 0, 1, 0);
        x.go(1);
        c.dueEnd("one TICK", x, 0, 1, 1);
    }

    /** "12 how often it gave up, 13 how often there was AGAIN, 14 how often it came into DATA": more than once each. */
    void promise11CountsOfAnEnd() {
        TwoModems x = Checks.on(PLAIN + "h1,1");
        for (int k = 1; k <= 3; k++) {
            x.call(0);
            x.go(61);
            c.dueEnd("given up " + k, x, 0, 12, k, 13, 0, 14, 0);
            c.dueEnd("the other END " + k, x, 1, 12, 0);
        }
        x.go(2);
        Checks.read(x, PLAIN);
        x.call(0);
        x.go(70);
        for (int k = 1; k <= 3; k++) {
            Checks.read(x, PLAIN + "h0,1");
            x.go(3);
            Checks.read(x, PLAIN);
            x.go(30);
            c.dueEnd("AGAIN " + k, x, 0, 0, 7, 2, 1 + k, 3, 16 - k, 4, 16 - k, 12, 3, 13, k, 14, 1 + k);
            c.dueEnd("AGAIN " + k, x, 1, 0, 7, 2, 1 + k, 3, 16, 4, 16 - k, 12, 0, 13, 0, 14, 1 + k);
        }
    }

    // ---- Promises 12 to 14

    /** "UNKNOWN: end, band (0 to 7)" */
    void promise12BandsAre0To7() {
        TwoModems x = busy();
        for (int band = 0; band < 8; band++) {
            // HURT are the 14th on WAY 1, PROBE 4 in TICK 16, and the 9th on WAY 0, PROBE 2 in TICK 11
            c.due("END 0 noted WAY 1", x.band(0, band), band == 4 ? 0 : 8 + band);
            c.due("END 1 noted WAY 0", x.band(1, band), band == 2 ? 0 : 15 - band);
        }
        for (int end = 0; end < 2; end++) {
            for (int band : new int[] {-1, 8, 9, LEAST, MOST}) {
                int e = end;
                c.refused("band " + band, x, () -> x.band(e, band), UNKNOWN);
            }
        }
        for (int band : new int[] {0, 7, 8}) {
            refusedEnds("band " + band, UNKNOWN, (y, end) -> y.band(end, band));
        }
    }

    /** "UNKNOWN: end, tap" (0 to 3) */
    void promise13TapsAre0To3() {
        TwoModems x = new TwoModems();
        x.echo(0, 0, 10);
        x.call(0);
        x.go(22);
        int[] want = {20, 0, 0, 0};
        TwoModems y = new TwoModems();
        y.echo(0, 0, 10);
        y.call(0);
        y.go(19);
        for (int tap = 0; tap < 4; tap++) {
            c.due("learnt in the first TICK", y.learnt(0, tap), want[tap]);
            c.due("all four are learnt of then", x.learnt(0, tap) != 0 ? 1 : 0, 1);
            c.due("not by the other END", x.learnt(1, tap), 0);
        }
        TwoModems z = busy();
        for (int end = 0; end < 2; end++) {
            for (int tap : new int[] {-1, 4, 5, LEAST, MOST}) {
                int e = end;
                c.refused("learnt " + tap, z, () -> z.learnt(e, tap), UNKNOWN);
            }
        }
        for (int tap : new int[] {0, 3, 4}) {
            refusedEnds("learnt " + tap, UNKNOWN, (w, end) -> w.learnt(end, tap));
        }
    }

    /** "UNKNOWN: end, place": none is GOT, some are, all 200 are. */
    void promise14PlacesAreThoseGot() {
        TwoModems x = new TwoModems();
        Checks.speak(x, 0, "abc");
        for (int place : new int[] {-1, 0, 1, LEAST, MOST}) {
            c.refused("got " + place + " of none", x, () -> x.got(1, place), UNKNOWN);
        }
        x.call(0);
        x.go(100);
        c.due("got 0", x.got(1, 0), 'a');
        c.due("got 2", x.got(1, 2), 'c');
        for (int place : new int[] {-1, 3, 4, 199, 200, LEAST, MOST}) {
            c.refused("got " + place + " of three", x, () -> x.got(1, place), UNKNOWN);
        }
        c.refused("letters sent are not GOT", x, () -> x.got(0, 0), UNKNOWN);
        TwoModems y = full();
        c.due("got 0", y.got(0, 0), 'a');
        c.due("got 199", y.got(0, 199), THIRTY.charAt(19));
        for (int place : new int[] {-1, 200, 201, LEAST, MOST}) {
            c.refused("got " + place + " of 200", y, () -> y.got(0, place), UNKNOWN);
        }
        for (int place : new int[] {0, 199, 200, -1}) {
            refusedEnds("got " + place, UNKNOWN, (w, end) -> w.got(end, place));
        }
    }

    // ---- Promise 15

    /** "what = 0 its sort .. 4 a (0). UNKNOWN: end; OUTSIDE." */
    void promise15WhatIs0To4() {
        TwoModems x = busy();
        for (int end = 0; end < 2; end++) {
            for (int what : new int[] {-1, 5, 6, LEAST, MOST}) {
                int e = end;
                c.refused("heard " + what, x, () -> x.heard(e, what), OUTSIDE);
            }
        }
        for (int what : new int[] {0, 4, -1, 5, MOST}) {
            refusedEnds("heard " + what, UNKNOWN, (y, end) -> y.heard(end, what));
        }
    }

    /** "(0 to 7; 0 ahead of all TICKS)"; "(SILENCE for one that is HURT)": all five numbers are 0 then. */
    void promise15SilenceHasNoNumbers() {
        TwoModems x = new TwoModems();
        c.dueHeard("ahead of all TICKS", x, 0, 0, 0, 0, 0, 0);
        c.dueHeard("ahead of all TICKS", x, 1, 0, 0, 0, 0, 0);
        Checks.speak(x, 0, "abc");
        Checks.speak(x, 1, "abc");
        x.call(0);
        x.go(70);
        c.dueHeard("a FRAME", x, 1, 7, 1, 3, 0, 3);
        Checks.read(x, PLAIN + "h1,0");
        x.go(1);
        c.dueHeard("HURT", x, 1, 0, 0, 0, 0, 0);
        c.dueHeard("not HURT", x, 0, 7, 1, 3, 0, 3);
        x.call(0);
        c.dueHeard("a refused call", x, 0, 7, 1, 3, 0, 3);
        x.hang(0);
        c.dueHeard("hang", x, 0, 7, 1, 3, 0, 3);
    }

    /** "1 b, or g (0: it has none), 2 r, or p (0), 3 n (0), 4 a (0)": of each sort, over DELAY 2. */
    void promise15NumbersOfEachSort() {
        TwoModems x = new TwoModems();
        Checks.speak(x, 0, "abcdefgh");
        Checks.speak(x, 1, "ijklmnop");
        x.go(3);
        c.dueHeard("SILENCE of REST", x, 0, 0, 0, 0, 0, 0);
        x = new TwoModems();
        Checks.speak(x, 0, "abcdefgh");
        Checks.speak(x, 1, "ijklmnop");
        x.call(0);
        int[] passes = {3, 2, 2, 1, 6, 1, 6, 32, 2, 1};
        int[] ends = {1, 0, 1, 1, 1, 1, 1, 1, 0, 0};
        int[][] numbers = {{1, 0, 0, 0, 0}, {2, 0, 0, 0, 0}, {3, 0, 0, 0, 0}, {3, 1, 0, 0, 0}, {3, 7, 0, 0, 0},
            {0, 0, 0, 0, 0}, {4, 0, 0, 0, 0}, {5, 1, 16, 0, 0}, {5, 1, 16, 0, 0}, {6, 1, 16, 0, 0}};
        for (int k = 0; k < passes.length; k++) {
            x.go(passes[k]);
            c.dueHeard("sort " + numbers[k][0], x, ends[k], numbers[k]);
        }
        x.go(3);
        c.dueHeard("FRAME of TICK 56", x, 0, 7, 1, 0, 2, 0);
        x.go(1);
        c.dueHeard("FRAME of TICK 57", x, 0, 7, 1, 2, 2, 2);
    }

    /** "(also in one in which it gave up)" */
    void promise15HeardWhereItGaveUp() {
        TwoModems x = new TwoModems();
        x.call(0);
        x.call(1);
        x.go(61);
        for (int end = 0; end < 2; end++) {
            c.dueEnd("given up", x, end, 0, 0, 12, 1);
            c.dueHeard("CALL", x, end, 1, 0, 0, 0, 0);
        }
    }

    // ---- Promises 16 and 17

    /** "what = 0 DELAY, 1 .., 2 .., 3 .., 10 to 17 .., 20 to 27 .. OUTSIDE." */
    void promise16WhatIsOneOfThese() {
        TwoModems x = Checks.on("01234567/89abcdef;8h50,49");
        for (int what = -40; what <= 60; what++) {
            int w = what;
            if (what >= 10 && what <= 17) {
                c.due("about " + what, x.about(what), what - 10);
            } else if (what >= 20 && what <= 27) {
                c.due("about " + what, x.about(what), what - 12);
            } else if (what >= 0 && what <= 3) {
                c.due("about " + what, x.about(what), new int[] {8, 50, 49, 0}[what]);
            } else {
                c.refused("about " + what, x, () -> x.about(w), OUTSIDE);
            }
        }
        for (int what : new int[] {LEAST, MOST, 10 + (1 << 16)}) {
            c.refused("about " + what, x, () -> x.about(what), OUTSIDE);
        }
    }

    /** "3 how many SIGNALS were sent on both WAYS and have not come yet": none, the most of all (16). */
    void promise16OnTheWays() {
        TwoModems x = Checks.on("88888888/88888888;8");
        c.due("none", x.about(3), 0);
        for (int k = 1; k <= 10; k++) {
            x.go(1);
            c.due("behind TICK " + (k - 1), x.about(3), 2 * Math.min(k, 8));
        }
        Checks.read(x, "88888888/88888888;1");
        x.go(1);
        c.due("one comes, what is sent takes the place of another", x.about(3), 14);
        x.go(7);
        c.due("one on each WAY", x.about(3), 2);
        c.due("no TICK has two", x.count(2), 10);
    }

    /** "what .. 0 .. 8 .. OUTSIDE." */
    void promise17WhatIs0To8() {
        TwoModems x = busy();
        int[] want = {4, 90, 87, 87, 9, 12};
        for (int what = 0; what < want.length; what++) {
            c.due("count " + what, x.count(what), want[what]);
        }
        c.due("count 7", x.count(7), 1);
        for (int what : new int[] {-1, 9, 10, -8, LEAST, MOST}) {
            c.refused("count " + what, x, () -> x.count(what), OUTSIDE);
        }
    }

    /** "6 changes of PHASE (by go() alone)" */
    void promise17ChangesByGoAlone() {
        TwoModems x = new TwoModems();
        for (int k = 0; k < 5; k++) {
            x.call(0);
            x.call(1);
            x.hang(0);
            x.hang(1);
        }
        c.due("none by call() and hang()", x.count(6), 0);
        x.call(0);
        c.due("by go()", x.go(30), 5);
        x.hang(0);
        x.hang(1);
        c.due("by go() alone", x.count(6), 5);
    }

    /** "8 letters .. sent with a number with which that END had sent one already": numbers of both ENDS are apart. */
    void promise17SentWithANumberAlready() {
        TwoModems x = new TwoModems();
        Checks.speak(x, 0, "abcd");
        Checks.speak(x, 1, "efgh");
        x.call(0);
        x.go(70);
        c.dueEnd("sent", x, 0, 7, 4, 8, 4);
        c.dueEnd("sent", x, 1, 7, 4, 8, 4);
        c.due("numbers 0 to 3 of two ENDS", x.count(8), 0);
        Checks.speak(x, 0, "i");
        x.go(2);
        Checks.read(x, PLAIN + "h1,0");
        x.go(1);
        Checks.read(x, PLAIN);
        x.go(5);
        c.due("not yet", x.count(8), 0);
        x.go(1);
        c.due("number 4 again", x.count(8), 1);
        x.go(1);
        Checks.read(x, PLAIN + "h1,0");
        x.go(1);
        Checks.read(x, PLAIN);
        x.go(7);
        c.due("and once more", x.count(8), 2);
    }

    /** The same for END 1: what it sent again is added to what END 0 did. */
    void promise17OfBothEnds() {
        TwoModems x = new TwoModems();
        x.call(0);
        x.go(100);
        for (int end = 1; end >= 0; end--) {
            Checks.speak(x, end, "a");
            x.go(2);
            Checks.read(x, PLAIN + (end == 1 ? "h0,1" : "h1,0"));
            x.go(1);
            Checks.read(x, PLAIN);
            x.go(20);
            c.due("sent again at END " + end, x.count(8), 2 - end);
        }
    }

    // ---- Promise 18

    private static long reckoned(List<Integer> numbers) {
        BigInteger h = BigInteger.valueOf(1613);
        for (int number : numbers) {
            h = h.multiply(BigInteger.valueOf(31)).add(BigInteger.valueOf(number));
        }
        return h.longValue();
    }

    private static void addAll(List<Integer> numbers, int times, int number) {
        for (int k = 0; k < times; k++) {
            numbers.add(number);
        }
    }

    /** "h is 1613, then .. 31 times h, and it (as longs, wrapping)": a new object, by whole numbers without end. */
    void promise18DigestOfANewObjectWraps() {
        List<Integer> numbers = new ArrayList<>();
        addAll(numbers, 2 * (16 + 8 + 4 + 4 + 5), 0);
        numbers.add(2);
        addAll(numbers, 3, 0);
        addAll(numbers, 16, 8);
        addAll(numbers, 9, 0);
        c.due("digest", new TwoModems().digest(), reckoned(numbers));
    }

    /** The same, with TAPS below 0, a full PAGE, and a LINE that was read. */
    void promise18DigestOfTapsAndAFullPage() {
        TwoModems x = Checks.on("ffffffff/00000000;8h50,49");
        List<Integer> numbers = new ArrayList<>();
        for (int end = 0; end < 2; end++) {
            addAll(numbers, 16 + 8 + 4, 0);
            for (int tap = 0; tap < 4; tap++) {
                int v = end == 0 ? -100 + tap : 100 - tap;
                x.echo(end, tap, v);
                numbers.add(v);
            }
            addAll(numbers, 5, 0);
        }
        numbers.addAll(List.of(8, 50, 49, 0));
        addAll(numbers, 8, 15);
        addAll(numbers, 8, 0);
        for (int k = 0; k < 30; k++) {
            x.letter(126 - 3 * k);
            numbers.add(126 - 3 * k);
        }
        numbers.add(30);
        addAll(numbers, 6, 0);
        numbers.addAll(List.of(1, 0));
        c.due("digest", x.digest(), reckoned(numbers));
    }

    /** "band() .., learnt() .., its TAPS": numbers that differ, some of them below 0. */
    void promise18DigestOfWhatIsNotedAndLearnt() {
        TwoModems x = Checks.on("01234567/89abcdef;1");
        int[] taps = {40, -30, 20, -10, -1, 2, -3, 4};
        for (int k = 0; k < 8; k++) {
            x.echo(k / 4, k % 4, taps[k]);
        }
        x.call(0);
        x.go(30);
        List<Integer> numbers = new ArrayList<>();
        int below0 = 0;
        for (int end = 0; end < 2; end++) {
            for (int what = 0; what < 16; what++) {
                numbers.add(x.end(end, what));
            }
            for (int band = 0; band < 8; band++) {
                numbers.add(end == 0 ? 8 + band : band);
            }
            for (int tap = 0; tap < 4; tap++) {
                numbers.add(x.learnt(end, tap));
                below0 += x.learnt(end, tap) < 0 ? 1 : 0;
            }
            for (int tap = 0; tap < 4; tap++) {
                numbers.add(taps[4 * end + tap]);
            }
            numbers.addAll(List.of(4, 0, 0, 0, 0));
        }
        c.due("some of LEARNT are below 0", below0 > 0 ? 1 : 0, 1);
        numbers.addAll(List.of(1, 0, 0, 2));
        for (int quality = 0; quality < 16; quality++) {
            numbers.add(quality);
        }
        numbers.addAll(List.of(0, 30, 29, 29, 0, 0, 5, 1, 0));
        c.due("digest", x.digest(), reckoned(numbers));
    }

    /** "letters GOT": all 200 of one END. */
    void promise18DigestOf200LettersGot() {
        TwoModems x = full();
        List<Integer> numbers = new ArrayList<>();
        for (int end = 0; end < 2; end++) {
            for (int what = 0; what < 16; what++) {
                numbers.add(x.end(end, what));
            }
            addAll(numbers, 8, 8);
            addAll(numbers, 4 + 4, 0);
            for (int what = 0; what < 5; what++) {
                numbers.add(x.heard(end, what));
            }
            for (int k = 0; k < 200 && end == 0; k++) {
                numbers.add((int) THIRTY.charAt(k % 30));
            }
        }
        numbers.addAll(List.of(2, 0, 0, 4));
        addAll(numbers, 16, 8);
        numbers.addAll(List.of(0, 300, 298, 298, 0, 0, 11, 0, 0));
        c.due("digest", x.digest(), reckoned(numbers));
    }

    /** It tells what changed, number by number: two objects that differ in one thing have two digests. */
    void promise18DigestTellsEachChange() {
        long before = busy().digest();
        List<LongSupplier> changed = new ArrayList<>();
        for (int tap = 0; tap < 4; tap++) {
            for (int end = 0; end < 2; end++) {
                TwoModems x = busy();
                x.echo(end, tap, 77);
                changed.add(x::digest);
            }
        }
        TwoModems x = busy();
        x.letter('!');
        changed.add(x::digest);
        x = busy();
        x.hang(0);
        changed.add(x::digest);
        x = busy();
        x.hang(1);
        changed.add(x::digest);
        x = busy();
        x.go(1);
        changed.add(x::digest);
        for (int k = 0; k < changed.size(); k++) {
            c.due("change " + k + " is told", changed.get(k).getAsLong() != before ? 1 : 0, 1);
        }
        c.due("nothing changed", busy().digest(), before);
    }

    // ---- what is refused changes nothing, also nothing that only later TICKS show

    /** Two objects go the same way; one of them is asked for what is refused, and what is told, ahead of each step. */
    void promise18RefusedAndTellingCallsChangeNothingLater() {
        for (int round = 0; round < 9; round++) {
            TwoModems x = busyFromHere();
            TwoModems y = busyFromHere();
            for (int step = 0; step < 30; step++) {
                disturb(x, (step + 5 * round) % 18);
                c.due("go in step " + step, x.go(1 + step % 7), y.go(1 + step % 7));
                c.due("digest in step " + step, x.digest(), y.digest());
            }
        }
    }

    private static TwoModems busyFromHere() {
        TwoModems x = Checks.on("cccccccc/cccccccc;4h6,5");
        x.echo(0, 2, 31);
        Checks.speak(x, 0, "abcdefghijklmnopqrstuvwxyz");
        Checks.speak(x, 1, "zyxwvu");
        x.call(0);
        Checks.write(x, "half a page");
        return x;
    }

    private void disturb(TwoModems x, int kind) {
        switch (kind) {
            case 0: c.refused("letter", x, () -> x.letter(31), OUTSIDE); break;
            case 1: c.refused("letter", x, () -> x.letter(127), OUTSIDE); break;
            case 2: c.refused("fault", x, x::fault, 0); break;
            case 3: c.refused("line", x, x::line, STATE); break;
            case 4: c.refused("say", x, () -> x.say(2), UNKNOWN); break;
            case 5: c.refused("echo", x, () -> x.echo(0, 4, 1), UNKNOWN); break;
            case 6: c.refused("echo", x, () -> x.echo(0, 3, 101), OUTSIDE); break;
            case 7: c.refused("call", x, () -> x.call(-1), UNKNOWN); break;
            case 8: c.refused("hang", x, () -> x.hang(2), UNKNOWN); break;
            case 9: c.refused("go", x, () -> x.go(0), OUTSIDE); break;
            case 10: c.refused("go", x, () -> x.go(101), OUTSIDE); break;
            case 11: c.refused("end", x, () -> x.end(0, 16), OUTSIDE); break;
            case 12: c.refused("band", x, () -> x.band(1, 8), UNKNOWN); break;
            case 13: c.refused("learnt", x, () -> x.learnt(1, 4), UNKNOWN); break;
            case 14: c.refused("got", x, () -> x.got(1, 200), UNKNOWN); break;
            case 15: c.refused("heard", x, () -> x.heard(1, 5), OUTSIDE); break;
            case 16: c.refused("about", x, () -> x.about(4), OUTSIDE); break;
            default: c.refused("count", x, () -> x.count(9), OUTSIDE); break;
        }
    }
}
