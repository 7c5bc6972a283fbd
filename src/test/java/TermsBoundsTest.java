/**
 * The bounds that the Terms of the document name: each test stands below the sentence that it tries, and bears
 * its name. Where nothing else is told, END 0 calls ahead of TICK 0 over DELAY 2, and the ENDS come into
 * END 0: CALL 0, PROBE 4, TRAIN 18, BARGAIN 50, AGREE 54, DATA 55;
 * END 1: ANSWER 2, PROBE 6, TRAIN 20, BARGAIN 52, AGREE 53, DATA 56.
 */
public final class TermsBoundsTest {
    private static final String PLAIN = Checks.PLAIN;
    /** OFFER 1 at both ENDS, so that nothing is bargained anew. */
    private static final String SLOW = "40000000/04000000;2";
    private static final int REST = 0, CALL = 1, ANSWER = 2, PROBE = 3, TRAIN = 4, BARGAIN = 5, AGREE = 6, DATA = 7;

    private final Checks c = new Checks();

    public static void main(String[] args) throws ReflectiveOperationException {
        TermsBoundsTest t = new TermsBoundsTest();
        t.c.runAll(t);
        t.c.finish();
    }

    private static TwoModems called(String line, int ticks) {
        TwoModems x = Checks.on(line);
        x.call(0);
        Checks.pass(x, ticks);
        return x;
    }

    // ======== 1

    /** "eight figures (0 to 9, a to f: 0 to 15), the QUALITY of BANDS 0 to 7 on WAY 0, "/", eight for WAY 1" */
    void terms1FiguresAre0To15() {
        String figures = "0123456789abcdef";
        for (int value = 0; value < 16; value++) {
            for (int place = 0; place < 16; place++) {
                StringBuilder text = new StringBuilder("8888888888888888");
                text.setCharAt(place, figures.charAt(value));
                text.insert(8, '/').append(";2");
                TwoModems x = Checks.on(text.toString());
                for (int k = 0; k < 16; k++) {
                    c.due(text + " BAND " + k, x.about(10 + 10 * (k / 8) + k % 8), k == place ? value : 8);
                }
            }
        }
        for (int place = 0; place < 17; place++) {
            for (char wrong : "/:@`gAFGZ ".toCharArray()) {
                if (place != 8) {
                    StringBuilder text = new StringBuilder("88888888/88888888;2");
                    text.setCharAt(place, wrong);
                    TwoModems x = Checks.withPage(text.toString());
                    c.due("fault of " + text, x.fault(), place);
                    c.refused("line of " + text, x, x::line, Checks.STATE);
                }
            }
        }
    }

    /** "DELAY (1 to 8)" */
    void terms1DelayIs1To8() {
        for (int delay = 1; delay <= 8; delay++) {
            TwoModems x = Checks.withPage("88888888/88888888;" + delay);
            c.due("line of DELAY " + delay, x.line(), delay);
            c.due("about DELAY " + delay, x.about(0), delay);
        }
        for (String wrong : new String[] {"0", "9", "/", ":", "a"}) {
            TwoModems x = Checks.withPage("88888888/88888888;" + wrong);
            c.due("fault of DELAY " + wrong, x.fault(), 18);
            c.refused("line of DELAY " + wrong, x, x::line, Checks.STATE);
            c.due("DELAY stays", x.about(0), 2);
        }
        c.due("two figures", Checks.withPage("88888888/88888888;10").fault(), 19);
    }

    /** "HURT of WAY 0, ",", HURT of WAY 1 (0 to 50 each)" */
    void terms1HurtIs0To50() {
        for (int hurt = 0; hurt <= 99; hurt++) {
            int figures = hurt < 10 ? 1 : 2;
            String ahead = PLAIN + "h" + hurt;
            String behind = PLAIN + "h50," + hurt;
            if (hurt <= 50) {
                TwoModems x = Checks.on(ahead + ",0");
                c.due("HURT of WAY 0 is " + hurt, x.about(1), hurt);
                c.due("HURT of WAY 1 is 0", x.about(2), 0);
                x = Checks.on(behind);
                c.due("HURT of WAY 0 is 50", x.about(1), 50);
                c.due("HURT of WAY 1 is " + hurt, x.about(2), hurt);
            } else {
                c.due("fault of " + ahead, Checks.withPage(ahead).fault(), 19 + figures);
                c.due("fault of " + behind, Checks.withPage(behind).fault(), 22 + figures);
                TwoModems x = Checks.withPage(behind);
                c.refused("line of " + behind, x, x::line, Checks.STATE);
            }
        }
        c.due("three figures", Checks.withPage(PLAIN + "h100,0").fault(), 22);
        c.due("three figures", Checks.withPage(PLAIN + "h0,100").fault(), 24);
    }

    /** "without a 0 ahead of others" */
    void terms1HurtHasNo0AheadOfOthers() {
        for (int figure = 0; figure < 10; figure++) {
            c.due("fault of 0" + figure, Checks.withPage(PLAIN + "h0" + figure).fault(), 21);
            c.due("fault of 0" + figure, Checks.withPage(PLAIN + "h7,0" + figure).fault(), 23);
            TwoModems x = Checks.withPage(PLAIN + "h7,0" + figure);
            c.refused("line of 0" + figure, x, x::line, Checks.STATE);
        }
        c.due("a 0 alone is none ahead of others", Checks.withPage(PLAIN + "h0,0").line(), 2);
        c.due("nor is one behind others", Checks.withPage(PLAIN + "h10,20").line(), 2);
    }

    /** "then perhaps "h" .. both 0 without" */
    void terms1HurtIs0Without() {
        TwoModems x = Checks.on(PLAIN + "h50,1");
        c.due("line", Checks.read(x, PLAIN), 2);
        c.due("HURT of WAY 0", x.about(1), 0);
        c.due("HURT of WAY 1", x.about(2), 0);
        x.go(100);
        c.due("none is HURT", x.count(4) + x.count(5), 0);
    }

    /** "At first it is "88888888/88888888;2"." */
    void terms1TheFirstLine() {
        TwoModems x = new TwoModems();
        TwoModems y = Checks.on(PLAIN);
        for (int what = 0; what < 30; what++) {
            c.due("about " + what, x.about(what), y.about(what));
        }
        x.call(0);
        y.call(0);
        c.due("go", x.go(70), y.go(70));
        c.due("no LINE was read", x.count(7), 0);
        c.due("one was", y.count(7), 1);
    }

    /** "four TAPS (-100 to 100; 0 at first)" */
    void terms1TapsAre0AtFirst() {
        TwoModems x = called(PLAIN, 51);
        c.due("REMAINS without an ECHO", x.end(0, 11), 0);
        for (int end = 0; end < 2; end++) {
            for (int tap = 0; tap < 4; tap++) {
                c.due("learnt", x.learnt(end, tap), 0);
                c.due("echo at first", x.echo(end, tap, -100), 0);
                c.due("echo then", x.echo(end, tap, 100), -100);
                c.due("echo then", x.echo(end, tap, 0), 100);
            }
        }
    }

    /** "numbered from 0 .. it comes to the other END in the TICK that is DELAY TICKS later" */
    void terms1SignalsComeDelayTicksLater() {
        for (int delay = 1; delay <= 8; delay++) {
            TwoModems x = called("88888888/88888888;" + delay, delay);
            c.due("none came, DELAY " + delay, x.count(2) + x.count(3), 0);
            c.dueHeard("a TICK too early", x, 1, 0);
            c.due("all are on the WAYS", x.about(3), 2 * delay);
            c.due("the ANSWER", x.go(1), 1);
            c.dueHeard("in time", x, 1, 1);
            c.due("one came on WAY 0", x.count(2), 1);
            c.due("one came on WAY 1", x.count(3), 1);
            c.due("as many are on the WAYS", x.about(3), 2 * delay);
        }
    }

    /** "(DELAY as it was when it was sent)": CALL of TICK 0 comes in TICK 8, and nothing else does. */
    void terms1DelayAsItWasWhenSent() {
        TwoModems x = called("88888888/88888888;8", 1);
        x.hang(0);
        Checks.read(x, "88888888/88888888;1");
        x.go(6);
        Checks.read(x, "88888888/88888888;8");
        x.go(1);
        c.due("TICKS 2 to 7", x.count(2), 6);
        c.dueHeard("TICK 7", x, 1, 0);
        c.due("TICK 8 has the CALL of TICK 0", x.go(1), 1);
        c.dueHeard("TICK 8", x, 1, 1);
        c.due("TICK 8", x.count(2), 7);
        c.due("TICKS 7 and 8 are on the WAYS", x.about(3), 4);
        c.due("until TICK 15 none comes", x.go(6), 0);
        c.due("TICK 14", x.count(2), 7);
        x.go(1);
        c.due("TICK 15", x.count(2), 8);
    }

    /** "of two that come in one TICK that sent later does, the other one is gone": three come in TICK 3. */
    void terms1OfTwoInOneTickTheLater() {
        for (int last = 0; last < 2; last++) {
            TwoModems x = Checks.on("88888888/88888888;3");
            if (last == 0) {
                x.call(0);
            }
            x.go(1);
            Checks.read(x, "88888888/88888888;2");
            x.go(1);
            c.due("of two on each WAY one", x.about(3), 2);
            Checks.read(x, "88888888/88888888;1");
            if (last == 0) {
                x.hang(0);
            } else {
                x.call(0);
            }
            x.go(1);
            c.due("of three on each WAY one", x.about(3), 2);
            c.due("only the latest is heard", x.go(1), last);
            c.dueHeard("TICK 3", x, 1, last);
            c.due("one came", x.count(2), 1);
            c.due("on each WAY", x.count(3), 1);
            c.due("what was sent in TICK 3", x.about(3), 2);
        }
    }

    /** "In each TICK in which one comes .. (SILENCE is one, too), it is counted .. SILENCE is heard also, if none comes" */
    void terms1WhatComesIsCounted() {
        TwoModems x = Checks.on("88888888/88888888;1h3,0");
        x.go(1);
        c.due("none comes in TICK 0", x.count(2), 0);
        x.go(1);
        c.due("SILENCE is counted", x.count(2), 1);
        Checks.read(x, "88888888/88888888;8h3,0");
        x.go(1);
        c.due("TICK 2", x.count(2), 2);
        x.go(7);
        c.due("none comes in TICKS 3 to 9", x.count(2), 2);
        c.due("none is HURT of these", x.count(4), 0);
        c.due("four were sent twice as slowly", x.about(3), 16);
        x.go(1);
        c.due("TICK 10", x.count(2), 3);
        c.due("the third is HURT", x.count(4), 1);
    }

    /** SILENCE where none comes is a loss in DATA: TICKS 101 to 107 have none behind DELAY 1 in TICK 99. */
    void terms1SilenceIsHeardIfNoneComes() {
        TwoModems x = called("40000000/04000000;1", 100);
        c.dueEnd("in DATA", x, 0, 0, DATA, 15, 0);
        Checks.read(x, "40000000/04000000;8");
        x.go(1);
        c.dueEnd("that of TICK 99 comes in TICK 100", x, 0, 0, DATA, 15, 0);
        int came = x.count(3);
        x.go(7);
        c.dueEnd("none comes in TICKS 101 to 107", x, 0, 0, DATA, 15, 127);
        c.dueHeard("TICK 107", x, 0, 0, 0, 0, 0, 0);
        c.due("none is counted", x.count(3), came);
        x.go(1);
        c.dueEnd("that of TICK 100 comes in TICK 108", x, 0, 0, DATA, 15, 254);
        c.due("it is counted", x.count(3), came + 1);
        c.due("none was HURT", x.count(5), 0);
    }

    /** "if HURT of the WAY is above 0, and that number % HURT is 0, it is HURT" */
    void terms1HurtByTheNumberThatCame() {
        int[] hurts = {0, 1, 2, 49, 50};
        for (int hurt : hurts) {
            TwoModems x = Checks.on("88888888/88888888;1h" + hurt + "," + (50 - hurt));
            x.go(50);
            c.due("49 came", x.count(2), 49);
            c.due("HURT by " + hurt, x.count(4), hurt == 0 ? 0 : 49 / hurt);
            c.due("HURT by " + (50 - hurt), x.count(5), hurt == 50 ? 0 : 49 / (50 - hurt));
            x.go(1);
            c.due("HURT by " + hurt, x.count(4), hurt == 0 ? 0 : 50 / hurt);
            c.due("HURT by " + (50 - hurt), x.count(5), hurt == 50 ? 0 : 50 / (50 - hurt));
            x.go(50);
            c.due("HURT by " + hurt, x.count(4), hurt == 0 ? 0 : 100 / hurt);
        }
    }

    /** "it is counted there (ever)": HURT that is read later reckons with all that came. */
    void terms1HurtReckonsWithAllThatCame() {
        TwoModems x = new TwoModems();
        x.go(8);
        c.due("six came", x.count(2), 6);
        Checks.read(x, PLAIN + "h4,7");
        x.go(1);
        c.due("the 7th is not HURT by 4", x.count(4), 0);
        c.due("but by 7", x.count(5), 1);
        x.go(1);
        c.due("the 8th is HURT by 4", x.count(4), 1);
        c.due("but not by 7", x.count(5), 1);
    }

    /** "As soon as it comes into a PHASE in (a) to (c), what is left of these is not done in that TICK." */
    void terms1OnePhaseInATick() {
        TwoModems x = called("88888888/88888888;8", 16 + 12);
        c.dueEnd("in PROBE since TICK 16", x, 0, 0, PROBE, 1, 12);
        Checks.read(x, "88888888/88888888;1");
        c.due("END 0 into TRAIN", x.go(1), 1);
        c.dueEnd("no more than one PHASE", x, 0, 0, TRAIN, 1, 1);
    }

    /** "LASTED: how many TICKS .. it was in its PHASE at the end (0, if it comes into it in this one)" */
    void terms1LastedIs0AsItComesIn() {
        TwoModems x = called(PLAIN, 4);
        c.dueEnd("CALL in TICKS 0 to 3", x, 0, 0, CALL, 1, 4);
        x.go(1);
        c.dueEnd("into PROBE in TICK 4", x, 0, 0, PROBE, 1, 1);
        x.go(2);
        c.dueHeard("PROBE of TICK 4 has LASTED 0", x, 1, 3, 0);
        x.go(1);
        c.dueHeard("PROBE of TICK 5 has LASTED 1", x, 1, 3, 1);
    }

    // ======== 2: (a)

    /** "In PHASES 1 to 6, if LASTED is 60 or more .. it gives up": 1 CALL */
    void terms2GivesUpInCallAt60() {
        TwoModems x = called("88888888/88888888;1h1,0", 60);
        c.dueEnd("LASTED 60 is next", x, 0, 0, CALL, 1, 60, 12, 0);
        c.due("it gives up", x.go(1), 1);
        c.dueEnd("given up", x, 0, 0, REST, 1, 1, 12, 1);
    }

    /** ANSWER comes in TICK 59, in which LASTED is 59, or in TICK 60, ahead of which (a) is. */
    void terms2GivesUpAheadOfHearing() {
        TwoModems x = called("88888888/88888888;1h1,0", 58);
        Checks.read(x, "88888888/88888888;1");
        c.due("END 1 hears CALL in TICK 58", x.go(1), 1);
        c.due("END 0 hears ANSWER in TICK 59", x.go(1), 1);
        c.dueEnd("LASTED was 59", x, 0, 0, PROBE, 1, 1, 12, 0);
        x = called("88888888/88888888;1h1,0", 59);
        Checks.read(x, "88888888/88888888;1");
        c.due("END 1 hears CALL in TICK 59", x.go(1), 1);
        c.due("END 0 gives up in TICK 60", x.go(1), 1);
        c.dueEnd("LASTED was 60", x, 0, 0, REST, 1, 1, 12, 1);
        c.dueHeard("ANSWER came in that TICK", x, 0, 2);
    }

    /** The same: 2 ANSWER. END 1 is in it since TICK 2. */
    void terms2GivesUpInAnswerAt60() {
        TwoModems x = called(PLAIN, 1);
        x.hang(0);
        x.go(61);
        c.dueEnd("LASTED 60 is next", x, 1, 0, ANSWER, 1, 60, 12, 0);
        c.due("it gives up in TICK 62", x.go(1), 1);
        c.dueEnd("given up", x, 1, 0, REST, 1, 1, 12, 1);
        c.dueEnd("in REST none gives up", x, 0, 0, REST, 12, 0);
    }

    /** The same: 5 BARGAIN. END 0 is in it since TICK 50, and hears AGREE in TICK 109 or 110. */
    void terms2GivesUpInBargainAt60() {
        TwoModems x = called(PLAIN, 50);
        Checks.read(x, PLAIN + "h0,1");
        x.go(59);
        c.dueEnd("ahead of TICK 109", x, 0, 0, BARGAIN, 1, 59);
        Checks.read(x, PLAIN);
        x.go(1);
        c.dueEnd("LASTED was 59", x, 0, 0, AGREE, 1, 1, 12, 0);
        x = called(PLAIN, 50);
        Checks.read(x, PLAIN + "h0,1");
        x.go(60);
        c.dueEnd("ahead of TICK 110", x, 0, 0, BARGAIN, 1, 60, 12, 0);
        Checks.read(x, PLAIN);
        x.go(1);
        c.dueEnd("LASTED was 60", x, 0, 0, REST, 1, 1, 12, 1);
        c.dueHeard("AGREE came in that TICK", x, 0, 6, 1, 16);
    }

    /** The same: 6 AGREE. END 1 is in it since TICK 53, and hears FRAME in TICK 112 or 113. */
    void terms2GivesUpInAgreeAt60() {
        TwoModems x = called(PLAIN, 54);
        Checks.read(x, PLAIN + "h1,0");
        x.go(58);
        c.dueEnd("ahead of TICK 112", x, 1, 0, AGREE, 1, 59);
        Checks.read(x, PLAIN);
        x.go(1);
        c.dueEnd("LASTED was 59", x, 1, 0, DATA, 1, 1, 12, 0);
        x = called(PLAIN, 54);
        Checks.read(x, PLAIN + "h1,0");
        x.go(59);
        c.dueEnd("ahead of TICK 113", x, 1, 0, AGREE, 1, 60, 12, 0);
        Checks.read(x, PLAIN);
        x.go(1);
        c.dueEnd("LASTED was 60", x, 1, 0, REST, 1, 1, 12, 1);
        c.dueHeard("FRAME came in that TICK", x, 1, 7, 1);
    }

    /** "In PHASES 1 to 6": neither REST nor DATA ends by LASTED. */
    void terms2RestAndDataLast() {
        TwoModems x = new TwoModems();
        for (int k = 0; k < 200; k++) {
            x.go(100);
        }
        c.dueEnd("20000 TICKS", x, 0, 0, REST, 1, 20000, 12, 0);
        x = called(PLAIN, 57);
        for (int k = 0; k < 200; k++) {
            x.go(100);
        }
        c.dueEnd("in DATA since TICK 55", x, 0, 0, DATA, 1, 20002, 12, 0, 14, 1);
        c.dueEnd("in DATA since TICK 56", x, 1, 0, DATA, 1, 20001, 12, 0, 14, 1);
    }

    /** "in 7, if it heard SILENCE in each of the 16 TICKS ahead of this one" */
    void terms2GivesUpInDataBehind16Silences() {
        TwoModems x = called(SLOW, 80);
        Checks.read(x, SLOW + "h0,1");
        x.go(15);
        c.dueEnd("SILENCE in 15 TICKS", x, 0, 0, DATA, 15, 255);
        Checks.read(x, SLOW);
        x.go(1);
        c.dueHeard("a FRAME in the 16th", x, 0, 7, 1);
        Checks.read(x, SLOW + "h0,1");
        x.go(15);
        Checks.read(x, SLOW);
        x.go(2);
        c.dueEnd("15 and 15 with one between", x, 0, 0, DATA, 12, 0);
        Checks.read(x, SLOW + "h0,1");
        x.go(16);
        c.dueEnd("SILENCE in 16 TICKS", x, 0, 0, DATA, 12, 0);
        Checks.read(x, SLOW);
        c.due("it gives up, though a FRAME comes in this TICK", x.go(1), 1);
        c.dueHeard("the FRAME", x, 0, 7, 1);
        c.dueEnd("given up", x, 0, 0, REST, 1, 1, 12, 1, 13, 0);
        c.dueEnd("LOSSES are as they were ahead of (b)", x, 0, 15, 255);
    }

    /** "at the beginning of all of which it was in DATA already": END 0 is in DATA since TICK 55. */
    void terms2The16TicksBeginInData() {
        TwoModems x = called(SLOW, 56);
        c.dueEnd("into DATA in TICK 55", x, 0, 0, DATA, 1, 1);
        Checks.read(x, SLOW + "h0,1");
        x.go(16);
        c.dueEnd("TICKS 56 to 71", x, 0, 0, DATA, 1, 17, 15, 255, 12, 0);
        c.due("TICK 72", x.go(1), 1);
        c.dueEnd("given up", x, 0, 0, REST, 12, 1);
    }

    /** SILENCE of a time in DATA that is over is not reckoned with: 15 TICKS, then hung, called, met again. */
    void terms2The16TicksAreOfOneDataTime() {
        TwoModems x = called(SLOW, 80);
        Checks.read(x, SLOW + "h0,1");
        x.go(15);
        x.hang(0);
        x.hang(1);
        x.go(1);
        Checks.read(x, SLOW);
        x.go(5);
        x.call(0);
        x.go(56);
        c.dueEnd("in DATA again", x, 0, 0, DATA, 1, 1, 14, 2);
        Checks.read(x, SLOW + "h0,1");
        x.go(16);
        c.dueEnd("16 TICKS", x, 0, 0, DATA, 12, 0);
        x.go(1);
        c.dueEnd("the 17th", x, 0, 0, REST, 12, 1);
    }

    // ======== 2: (b), (c), (d)

    /** "3 PROBE (as it comes into it, 0 is noted of all BANDS)"; "PROBE b: into PROBE, and that is noted, too" */
    void terms2NotedIs0AsItComesIntoProbe() {
        TwoModems x = called("ffffffff/ffffffff;2", 20);
        for (int band = 0; band < 8; band++) {
            c.due("noted at END 0", x.band(0, band), 15);
            c.due("noted at END 1", x.band(1, band), 15);
        }
        x.hang(0);
        x.hang(1);
        x.go(3);
        Checks.read(x, "10000000/20000000;2");
        x.call(0);
        x.go(4);
        c.due("still noted", x.band(0, 7), 15);
        x.go(1);
        for (int band = 0; band < 8; band++) {
            c.due("END 0 comes into PROBE", x.band(0, band), 0);
            c.due("END 1 not yet", x.band(1, band), 15);
        }
        x.go(2);
        c.due("END 1 comes into it by BAND 0", x.band(1, 0), 1);
        for (int band = 1; band < 8; band++) {
            c.due("and 0 is noted of the others", x.band(1, band), 0);
        }
    }

    /** "it notes of BAND b the QUALITY .. (as it is now)": the first BAND and the last, the least and the most. */
    void terms2NotesFirstAndLastBand() {
        TwoModems x = called("00000000/00000000;2", 6);
        Checks.read(x, "f000000f/00000000;2");
        x.go(1);
        c.due("BAND 0 in TICK 6", x.band(1, 0), 15);
        Checks.read(x, "00000000/00000000;2");
        x.go(6);
        c.due("BAND 6 in TICK 12", x.band(1, 6), 0);
        Checks.read(x, "0000000f/00000000;2");
        x.go(1);
        c.due("BAND 7 in TICK 13", x.band(1, 7), 15);
        c.due("BAND 0 stays", x.band(1, 0), 15);
        Checks.read(x, "ffffffff/ffffffff;2");
        x.go(10);
        for (int band = 1; band < 7; band++) {
            c.due("nothing is noted later", x.band(1, band), 0);
        }
    }

    /** "(c) If LASTED is 10 + 2 * DELAY or more": END 0 comes into PROBE in TICK 2 * DELAY. */
    void terms2ProbeLasts10And2Delays() {
        for (int delay = 1; delay <= 8; delay++) {
            TwoModems x = called("88888888/88888888;" + delay, 2 * delay);
            c.dueEnd("ahead of PROBE", x, 0, 0, CALL);
            x.go(1);
            c.dueEnd("into PROBE", x, 0, 0, PROBE, 1, 1);
            x.go(9 + 2 * delay);
            c.dueEnd("LASTED was one less", x, 0, 0, PROBE, 1, 10 + 2 * delay);
            x.go(1);
            c.dueEnd("into TRAIN", x, 0, 0, TRAIN, 1, 1);
        }
    }

    /** "(as it is now)": of DELAY 8 to 1 and of DELAY 1 to 8. */
    void terms2ProbeLastsByDelayAsItIsNow() {
        TwoModems x = called("88888888/88888888;8", 16 + 11);
        c.dueEnd("LASTED 11", x, 0, 0, PROBE, 1, 11);
        Checks.read(x, "88888888/88888888;1");
        x.go(1);
        c.dueEnd("11 is less than 12", x, 0, 0, PROBE, 1, 12);
        x.go(1);
        c.dueEnd("12 is not", x, 0, 0, TRAIN, 1, 1);
        x = called("88888888/88888888;1", 2 + 12);
        c.dueEnd("LASTED 12", x, 0, 0, PROBE, 1, 12);
        Checks.read(x, "88888888/88888888;8");
        x.go(14);
        c.dueEnd("LASTED 26", x, 0, 0, PROBE, 1, 26);
        x.go(1);
        c.dueEnd("26 is enough", x, 0, 0, TRAIN, 1, 1);
    }

    /** "(d) PROBE LASTED, if LASTED is 7 or less, else SILENCE." */
    void terms2ProbesAre0To7() {
        TwoModems x = called(PLAIN, 6);
        for (int b = 0; b < 8; b++) {
            x.go(1);
            c.dueHeard("TICK " + (6 + b), x, 1, 3, b, 0, 0, 0);
        }
        for (int tick = 14; tick < 20; tick++) {
            x.go(1);
            c.dueHeard("TICK " + tick, x, 1, 0, 0, 0, 0, 0);
        }
        x.go(1);
        c.dueHeard("TICK 20 has TRAIN of TICK 18", x, 1, 4, 0, 0, 0, 0);
    }

    /** "4 TRAIN (as it comes into it, LEARNT of all TAPS, in sixteenths, is 0)" */
    void terms2LearntIs0AsItComesIntoTrain() {
        TwoModems x = Checks.on(PLAIN);
        for (int tap = 0; tap < 4; tap++) {
            x.echo(0, tap, 100);
        }
        x.call(0);
        x.go(50);
        for (int tap = 0; tap < 4; tap++) {
            c.due("something is learnt", x.learnt(0, tap) != 0 ? 1 : 0, 1);
            x.echo(0, tap, 0);
        }
        x.hang(0);
        x.hang(1);
        x.go(5);
        x.call(0);
        x.go(18);
        c.dueEnd("in PROBE", x, 0, 0, PROBE);
        c.due("still learnt", x.learnt(0, 0) != 0 ? 1 : 0, 1);
        x.go(1);
        c.dueEnd("in TRAIN", x, 0, 0, TRAIN);
        for (int tap = 0; tap < 4; tap++) {
            c.due("LEARNT is 0", x.learnt(0, tap), 0);
        }
    }

    /** "(c) If LASTED is 32 or more: into BARGAIN, g is 1" */
    void terms2TrainLasts32() {
        TwoModems x = called(PLAIN, 50);
        c.dueEnd("LASTED was 31 in TICK 49", x, 0, 0, TRAIN, 1, 32, 2, 0);
        x.go(1);
        c.dueEnd("32 in TICK 50", x, 0, 0, BARGAIN, 1, 1, 2, 1);
    }

    /** "with s(k) the sign k TICKS ago (.. 0, if that was ahead of this TRAIN)": only TAP 3 has an ECHO. */
    void terms2NoSignAheadOfTrain() {
        TwoModems x = Checks.on(PLAIN);
        x.echo(0, 3, 10);
        x.call(0);
        x.go(21);
        for (int tap = 0; tap < 4; tap++) {
            c.due("TICKS 18 to 20: nothing is heard of it", x.learnt(0, tap), 0);
        }
        x.go(1);
        // signs + - - +: E = 160 * 1, so 20 each, by the sign of TICKS 21, 20, 19, 18
        c.due("TAP 0", x.learnt(0, 0), 20);
        c.due("TAP 1", x.learnt(0, 1), -20);
        c.due("TAP 2", x.learnt(0, 2), -20);
        c.due("TAP 3", x.learnt(0, 3), 20);
    }

    /** "a sign s: 1, if LASTED % 3 is 0 or LASTED % 5 is 0, else -1" over all of TRAIN, LASTED 0 to 31. */
    void terms2SignsOfTrain() {
        String signs = "+--+-++--++-+--+--+-++--++-+--+-";
        for (int lasted = 0; lasted < 32; lasted++) {
            TwoModems x = called(PLAIN, 18 + lasted);
            c.due("nothing is learnt yet", x.learnt(0, 0), 0);
            x.echo(0, 0, 1);
            x.go(1);
            // E = 16 * s(0), LEARNT 0 grows by E * s(0) / 8 = 2, LEARNT 1 by 2 * s(0) * s(1)
            c.due("TAP 0 at LASTED " + lasted, x.learnt(0, 0), 2);
            for (int k = 1; k < 4; k++) {
                int want = lasted < k ? 0 : signs.charAt(lasted) == signs.charAt(lasted - k) ? 2 : -2;
                c.due("TAP " + k + " at LASTED " + lasted, x.learnt(0, k), want);
            }
        }
    }

    /** "quotients as in Java": E * s(k) / 8 goes towards 0, so an ECHO turned around is learnt turned around. */
    void terms2LearntGrowsByQuotientsTowards0() {
        int[][] echoes = {{1, 0, 0, 0}, {0, 3, 0, 0}, {37, -100, 100, 5}, {100, 100, 100, 100}, {-7, 11, -13, 99}};
        for (int[] taps : echoes) {
            TwoModems x = Checks.on(PLAIN);
            for (int tap = 0; tap < 4; tap++) {
                x.echo(0, tap, taps[tap]);
                x.echo(1, tap, -taps[tap]);
            }
            x.call(0);
            x.go(52);
            int most = 0;
            for (int tap = 0; tap < 4; tap++) {
                most = Math.max(most, Math.abs(x.learnt(0, tap)));
                c.due("TAP " + tap, x.learnt(1, tap), -x.learnt(0, tap));
            }
            c.due("something is learnt", most > 0 ? 1 : 0, 1);
        }
    }

    /** Trains END 0 on some TAPS, and sets TAP 0 once more ahead of TICK 50, in which its OFFER is made. */
    private static TwoModems trained(String line, int[] taps, int tap0) {
        TwoModems x = Checks.on(line);
        for (int tap = 0; tap < 4; tap++) {
            x.echo(0, tap, taps[tap]);
        }
        x.call(0);
        x.go(50);
        x.echo(0, 0, tap0);
        return x;
    }

    private void dueLearnt(TwoModems x, int... want) {
        for (int tap = 0; tap < 4; tap++) {
            c.due("learnt(0, " + tap + ")", x.learnt(0, tap), want[tap]);
        }
    }

    /** "REMAINS = (the sum of the sizes of 16 * TAP k - LEARNT k, k from 0 to 3) / 16" */
    void terms2RemainsIsASixteenthOfTheSum() {
        TwoModems x = trained(PLAIN, new int[] {0, 0, 0, 3}, 0);
        dueLearnt(x, 0, -6, -6, 44);
        x.go(1);
        c.dueEnd("0 + 6 + 6 + 4 = 16", x, 0, 11, 1);
        x = trained(PLAIN, new int[] {1, 1, 0, 1}, 0);
        dueLearnt(x, 13, 9, -7, 12);
        x.go(1);
        c.dueEnd("13 + 7 + 7 + 4 = 31", x, 0, 11, 1);
        x = trained(PLAIN, new int[] {0, 2, 0, 0}, 0);
        dueLearnt(x, -3, 27, -5, -3);
        x.echo(0, 1, 1);
        x.go(1);
        c.dueEnd("3 + 11 + 5 + 3 = 22", x, 0, 11, 1);
        x = called(PLAIN, 49);
        x.echo(0, 0, 1);
        x.go(1);
        dueLearnt(x, 2, -2, 2, 2);
        x.echo(0, 0, 0);
        x.go(1);
        c.dueEnd("2 + 2 + 2 + 2 = 8", x, 0, 11, 0);
    }

    /** "what (what was noted) - REMAINS / 20 .. gives": REMAINS 19 takes 0, REMAINS 20 takes 1. */
    void terms2ATwentiethOfRemainsIsTaken() {
        TwoModems x = trained("88888888/44444444;2", new int[] {1, 2, 0, 3}, 19);
        dueLearnt(x, 13, 21, -9, 40);
        x.go(1);
        c.dueEnd("291 + 11 + 9 + 8 = 319", x, 0, 11, 19, 3, 8);
        x = trained("88888888/44444444;2", new int[] {0, 0, 0, 3}, 19);
        dueLearnt(x, 0, -6, -6, 44);
        x.go(1);
        c.dueEnd("304 + 6 + 6 + 4 = 320", x, 0, 11, 20, 3, 0);
        x = trained("88888888/00001236;2", new int[4], -39);
        x.go(1);
        c.dueEnd("REMAINS 39 takes 1", x, 0, 11, 39, 3, 1);
        x = trained("88888888/00001236;2", new int[4], -60);
        x.go(1);
        c.dueEnd("REMAINS 60 takes 3", x, 0, 11, 60, 3, 0);
    }

    /** "(0 at least) gives: below 4 0": the most of REMAINS takes 20, more than there is. */
    void terms2OfferIs0AtLeast() {
        TwoModems x = called("88888888/0000ffff;2", 50);
        for (int tap = 0; tap < 4; tap++) {
            x.echo(0, tap, tap % 2 == 0 ? 100 : -100);
        }
        x.go(1);
        c.dueEnd("4 * 100", x, 0, 11, 400, 3, 0);
    }

    /** "below 4 0, below 8 1, below 12 2, else 3": each QUALITY in one BAND, and in all. */
    void terms2OfferByQuality() {
        for (int quality = 0; quality < 16; quality++) {
            char figure = "0123456789abcdef".charAt(quality);
            int gives = quality < 4 ? 0 : quality < 8 ? 1 : quality < 12 ? 2 : 3;
            c.dueEnd("one BAND of " + figure, called("88888888/0" + figure + "000000;2", 51), 0, 3, gives);
            c.dueEnd("all of " + figure,
                called("88888888/88888888;2".replace('8', figure), 51), 0, 3, 8 * gives);
        }
    }

    /** "OFFER of its g: RATE is the lesser of that r and its OFFER" */
    void terms2RateIsTheLesser() {
        String[] lines = {"f0000000/40000000;2", "40000000/f0000000;2", "80000000/80000000;2", "ffffffff/ffffffff;2"};
        int[] offersOf0 = {1, 3, 2, 24};
        int[] offersOf1 = {3, 1, 2, 24};
        int[] rates = {1, 1, 2, 24};
        for (int k = 0; k < lines.length; k++) {
            TwoModems x = called(lines[k], 53);
            c.dueEnd(lines[k], x, 0, 0, BARGAIN, 3, offersOf0[k], 4, 0);
            c.dueEnd(lines[k], x, 1, 0, BARGAIN, 3, offersOf1[k], 4, 0);
            x.go(1);
            c.dueEnd(lines[k], x, 1, 0, AGREE, 4, rates[k]);
            c.dueHeard("OFFER of END 0", x, 1, 5, 1, offersOf0[k], 0, 0);
            x.go(1);
            c.dueEnd(lines[k], x, 0, 0, AGREE, 4, rates[k]);
            c.dueHeard("OFFER of END 1", x, 0, 5, 1, offersOf1[k], 0, 0);
        }
    }

    /** "AGREE of its g: RATE is that r: into AGREE": OFFER, which came in TICK 54, is HURT. */
    void terms2RateIsWhatWasAgreed() {
        TwoModems x = called("40000000/f0000000;2", 54);
        Checks.read(x, "40000000/f0000000;2h0,1");
        x.go(1);
        c.dueEnd("TICK 54", x, 0, 0, BARGAIN, 3, 3, 4, 0);
        Checks.read(x, "40000000/f0000000;2");
        x.go(1);
        c.dueHeard("TICK 55", x, 0, 6, 1, 1, 0, 0);
        c.dueEnd("TICK 55", x, 0, 0, AGREE, 1, 1, 3, 3, 4, 1);
    }

    /** "but into REST, if RATE is 0 so" */
    void terms2RestIfRateIs0() {
        for (String line : new String[] {"80000000/30000000;2", "30000000/80000000;2", "30000000/30000000;2"}) {
            TwoModems x = called(line, 53);
            c.due("END 1 comes into REST", x.go(1), 1);
            c.dueEnd(line, x, 1, 0, REST, 1, 1, 4, 0, 12, 0);
            c.due("END 0 comes into REST", x.go(1), 1);
            c.dueEnd(line, x, 0, 0, REST, 1, 1, 4, 0, 12, 0);
            c.due("and that is all", x.go(100), 0);
        }
        TwoModems x = called("40000000/40000000;2", 55);
        c.dueEnd("RATE 1 is none of these", x, 0, 0, AGREE, 4, 1);
        c.dueEnd("RATE 1 is none of these", x, 1, 0, AGREE, 4, 1);
    }

    /** "6 AGREE: (b) AGREE, FRAME of its g: into DATA": END 0 by AGREE, END 1 by AGREE or FRAME. OFFER does nothing. */
    void terms2AgreeEndsByAgreeOrFrame() {
        TwoModems x = called(PLAIN, 55);
        c.dueHeard("END 1, TICK 54", x, 1, 5, 1);
        c.due("TICK 55", x.go(1), 1);
        c.dueHeard("END 0, TICK 55", x, 0, 6, 1);
        c.dueEnd("END 0", x, 0, 0, DATA);
        c.dueHeard("END 1, TICK 55", x, 1, 5, 1);
        c.dueEnd("END 1", x, 1, 0, AGREE, 1, 3);
        Checks.read(x, PLAIN + "h1,0");
        c.due("TICK 56: AGREE is HURT", x.go(1), 0);
        Checks.read(x, PLAIN);
        c.due("TICK 57", x.go(1), 1);
        c.dueHeard("END 1, TICK 57", x, 1, 7, 1);
        c.dueEnd("END 1", x, 1, 0, DATA, 1, 1);
    }

    /** "OFFER of a greater g": one of the same g, sent in TICK 52 over DELAY 8, comes late and changes nothing. */
    void terms2AnOfferOfTheSameGIsNotGreater() {
        TwoModems x = called(PLAIN, 52);
        Checks.read(x, "88888888/88888888;8");
        x.go(1);
        Checks.read(x, "88888888/88888888;1");
        x.go(6);
        c.dueEnd("TICK 58", x, 0, 0, DATA, 2, 1, 4, 16);
        Checks.read(x, "88888888/88888888;8");
        x.go(1);
        c.due("TICK 60", x.go(1), 0);
        c.dueHeard("TICK 60", x, 0, 5, 1, 16, 0, 0);
        c.dueEnd("TICK 60", x, 0, 0, DATA, 2, 1, 3, 16, 4, 16, 15, 0);
    }

    /** "7 DATA (as it comes into it, CREDIT, WAITED, LOSSES are 0, and NEXT is TOLD)": a second time. */
    void terms2DataBeginsWith0() {
        TwoModems x = called(PLAIN, 80);
        Checks.speak(x, 0, "ABCDEFGH");
        x.go(2);
        Checks.read(x, PLAIN + "h0,1");
        x.go(2);
        Checks.read(x, PLAIN);
        c.dueEnd("TICK 83", x, 0, 0, DATA, 7, 8, 8, 0, 10, 3, 15, 3);
        x.hang(0);
        x.hang(1);
        x.go(5);
        c.dueEnd("all stays in REST", x, 0, 0, REST, 7, 8, 8, 0, 10, 3, 15, 3);
        c.dueEnd("TICK 83 was the last for END 1", x, 1, 9, 5);
        x.call(0);
        x.go(55);
        c.dueEnd("all stays until DATA", x, 0, 0, AGREE, 7, 8, 8, 0, 10, 3, 15, 3);
        x.go(1);
        c.dueEnd("NEXT is TOLD, two are sent", x, 0, 0, DATA, 5, 0, 7, 2, 8, 0, 10, 0, 14, 2, 15, 0);
        c.due("a second time", x.count(8), 2);
    }

    /** "(In the TICK in which it comes into DATA (d) alone is done of this.)": its FRAME is not GOT. */
    void terms2TheFrameThatBringsIntoDataIsNotGot() {
        TwoModems x = Checks.on(PLAIN);
        Checks.speak(x, 0, "ABCDEF");
        x.call(0);
        x.go(56);
        Checks.read(x, PLAIN + "h1,0");
        x.go(1);
        c.dueEnd("TICK 56", x, 1, 0, AGREE);
        Checks.read(x, PLAIN);
        x.go(1);
        c.dueHeard("TICK 57", x, 1, 7, 1, 0, 2, 0);
        c.dueEnd("TICK 57", x, 1, 0, DATA, 1, 1, 5, 16, 9, 0, 10, 0, 15, 0);
        x.go(1);
        c.dueHeard("TICK 58", x, 1, 7, 1, 2, 2, 0);
        c.dueEnd("TICK 58: p is not GOT", x, 1, 9, 0);
        x.go(4);
        c.dueEnd("TICK 62", x, 0, 7, 6, 8, 0, 10, 7);
        x.go(1);
        c.dueEnd("TICK 63", x, 0, 7, 3, 8, 0, 10, 0);
        x.go(2);
        c.dueEnd("TICK 65", x, 1, 9, 3);
    }

    /** "LOSSES are twice what they were, and 1 more .. their lowest 8 bits are kept" */
    void terms2LossesAreEightBits() {
        TwoModems x = called(SLOW, 80);
        int[] lost = {1, 3, 7, 15, 31, 63, 127, 255, 255, 255};
        Checks.read(x, SLOW + "h0,1");
        for (int k = 0; k < lost.length; k++) {
            x.go(1);
            c.dueEnd("lost " + (k + 1), x, 0, 15, lost[k]);
        }
        int[] then = {254, 252, 248, 240, 224, 192, 128, 0, 0};
        Checks.read(x, SLOW);
        for (int k = 0; k < then.length; k++) {
            x.go(1);
            c.dueEnd("not lost " + (k + 1), x, 0, 15, then[k]);
        }
    }

    private static void lose(TwoModems x) {
        Checks.read(x, PLAIN + "h0,1");
        x.go(1);
        Checks.read(x, PLAIN);
    }

    /** "if three or more of the bits of LOSSES are 1 .. AGAIN": two are not enough. */
    void terms2AgainByThreeLosses() {
        TwoModems x = called(PLAIN, 80);
        lose(x);
        lose(x);
        c.dueEnd("two", x, 0, 0, DATA, 13, 0, 15, 3);
        lose(x);
        c.dueEnd("three", x, 0, 0, BARGAIN, 1, 1, 2, 2, 3, 15, 13, 1, 15, 7);
    }

    /** "their lowest 8 bits are kept": the first of three is 7 TICKS old, or 8. */
    void terms2AgainByLossesInEightTicks() {
        for (int old = 7; old <= 8; old++) {
            TwoModems x = called(PLAIN, 80);
            lose(x);
            x.go(2);
            lose(x);
            x.go(old - 4);
            c.dueEnd("two", x, 0, 0, DATA, 15, old == 7 ? 72 : 144);
            lose(x);
            if (old == 7) {
                c.dueEnd("7 TICKS old", x, 0, 0, BARGAIN, 13, 1, 15, 145);
            } else {
                c.dueEnd("8 TICKS old", x, 0, 0, DATA, 13, 0, 15, 33);
            }
        }
    }

    /** "and LASTED is 8 or more": END 0 is in DATA since TICK 55, LASTED is 7 in TICK 62. */
    void terms2AgainIfLastedIs8() {
        TwoModems x = called(PLAIN, 56);
        Checks.read(x, PLAIN + "h0,1");
        c.due("SILENCE from LASTED 1 to 7 (END 1 comes into DATA)", x.go(7), 1);
        c.dueEnd("LASTED was 7", x, 0, 0, DATA, 1, 8, 13, 0, 15, 127);
        x.go(1);
        c.dueEnd("LASTED was 8", x, 0, 0, BARGAIN, 1, 1, 13, 1, 15, 255);
    }

    /** "its OFFER is above 1": OFFER 2 has AGAIN, OFFER 1 none, also where the other END's is more. */
    void terms2AgainIfOfferIsAbove1() {
        TwoModems x = called("f0000000/80000000;2", 80);
        Checks.read(x, "f0000000/80000000;2h0,1");
        x.go(3);
        c.dueEnd("OFFER was 2", x, 0, 0, BARGAIN, 2, 2, 3, 1, 13, 1);
        x = called("f0000000/40000000;2", 80);
        c.dueEnd("OFFER is 1", x, 0, 0, DATA, 3, 1);
        c.dueEnd("OFFER is 3", x, 1, 0, DATA, 3, 3);
        Checks.read(x, "f0000000/40000000;2h0,1");
        x.go(10);
        c.dueEnd("OFFER is 1", x, 0, 0, DATA, 2, 1, 3, 1, 13, 0, 15, 255);
        Checks.read(x, "f0000000/40000000;2h1,0");
        x.go(2);
        c.dueEnd("two at END 1", x, 1, 0, DATA, 13, 0);
        x.go(1);
        c.dueEnd("OFFER was 3", x, 1, 0, BARGAIN, 2, 2, 3, 2, 13, 1);
        c.dueEnd("RATE stays", x, 1, 4, 1);
    }

    /** "If there are letters sent that are not TOLD .. if it is 2 * DELAY + 4 or more then, it is 0, and NEXT is TOLD" */
    void terms2Waits2DelaysAnd4() {
        for (int delay = 1; delay <= 8; delay++) {
            String line = "88888888/88888888;" + delay;
            TwoModems x = called(line, 150);
            Checks.speak(x, 0, "A");
            x.go(1);
            c.dueEnd("sent", x, 0, 0, DATA, 7, 1, 8, 0, 10, 0);
            if (delay > 1) {
                x.go(delay - 1);
            }
            Checks.read(x, line + "h1,0");
            x.go(1);
            Checks.read(x, line);
            c.dueEnd("HURT", x, 0, 7, 1, 8, 0, 10, delay);
            x.go(delay + 3);
            c.dueEnd("one less", x, 0, 7, 1, 8, 0, 10, 2 * delay + 3);
            c.due("nothing is sent again", x.count(8), 0);
            x.go(1);
            c.dueEnd("waited enough", x, 0, 7, 1, 8, 0, 10, 0);
            c.due("sent again", x.count(8), 1);
            x.go(delay);
            c.dueEnd("GOT", x, 1, 9, 1);
            c.dueEnd("not yet TOLD", x, 0, 7, 1, 8, 0, 10, delay);
            x.go(delay);
            c.dueEnd("TOLD", x, 0, 7, 1, 8, 1, 10, 0);
            x.go(50);
            c.dueEnd("nothing is waited for", x, 0, 7, 1, 8, 1, 10, 0);
            c.due("nor sent again", x.count(8), 1);
        }
    }

    /** "2 * DELAY + 4": WAITED is 10 when DELAY 8 becomes 1, for which 6 is enough. */
    void terms2WaitsByDelayAsItIs() {
        TwoModems x = called("88888888/88888888;8", 150);
        Checks.speak(x, 0, "A");
        x.go(11);
        c.dueEnd("WAITED", x, 0, 7, 1, 8, 0, 10, 10);
        Checks.read(x, "88888888/88888888;1");
        x.go(1);
        c.dueEnd("enough", x, 0, 7, 1, 8, 0, 10, 0);
        c.due("sent again", x.count(8), 1);
    }

    /** "and TOLD did not grow in this TICK: WAITED is 1 more, else it is 0" */
    void terms2WaitedIs0WhereToldGrew() {
        TwoModems x = called(PLAIN, 100);
        Checks.speak(x, 0, "ABCDEFGHIJKL");
        x.go(4);
        c.dueEnd("TICK 103", x, 0, 7, 9, 8, 0, 10, 3);
        x.go(1);
        c.dueEnd("TICK 104: three of TICK 100 are TOLD", x, 0, 7, 11, 8, 3, 10, 0);
        x.go(1);
        c.dueEnd("TICK 105: those of TICK 101", x, 0, 7, 12, 8, 5, 10, 0);
    }

    /** "CREDIT is RATE more, 24 at most": RATE 1 from TICK 55 on, RATE 16 and RATE 24. */
    void terms2CreditIs24AtMost() {
        TwoModems x = called(SLOW, 55);
        c.dueEnd("ahead of DATA", x, 0, 5, 0);
        for (int credit = 1; credit <= 24; credit++) {
            x.go(1);
            c.dueEnd("RATE 1", x, 0, 5, credit);
        }
        x.go(1);
        c.dueEnd("RATE 1", x, 0, 5, 24);
        x = called(PLAIN, 56);
        c.dueEnd("RATE 16", x, 0, 5, 16);
        x.go(1);
        c.dueEnd("RATE 16", x, 0, 5, 24);
        x = called("ffffffff/ffffffff;2", 56);
        c.dueEnd("RATE 24", x, 0, 5, 24);
        x.go(1);
        c.dueEnd("RATE 24", x, 0, 5, 24);
    }

    /** "n the least of CREDIT / 8": CREDIT 7 sends none, CREDIT 8 one, CREDIT 24 three. */
    void terms2ALetterCosts8() {
        TwoModems x = Checks.on(SLOW);
        Checks.speak(x, 0, "ABCDEFGH");
        x.call(0);
        x.go(62);
        c.dueEnd("TICK 61", x, 0, 5, 7, 7, 0);
        x.go(1);
        c.dueEnd("TICK 62", x, 0, 5, 0, 7, 1);
        x.go(7);
        c.dueEnd("TICK 69", x, 0, 5, 7, 7, 1);
        x.go(1);
        c.dueEnd("TICK 70", x, 0, 5, 0, 7, 2);
        x = called(SLOW, 100);
        Checks.speak(x, 0, "ABCDEFGH");
        x.go(1);
        c.dueEnd("CREDIT was 24", x, 0, 5, 0, 7, 3);
        x.go(2);
        c.dueHeard("three in one FRAME", x, 1, 7, 1, 0, 3, 0);
        c.dueEnd("three in one FRAME", x, 1, 9, 3);
    }

    /** "of how many letters it has that are NEXT or behind it": none, one, two, three of four. */
    void terms2NoMoreThanItHas() {
        for (int has = 0; has <= 4; has++) {
            TwoModems x = called(SLOW, 100);
            Checks.speak(x, 0, "ABCD".substring(0, has));
            x.go(1);
            int sent = Math.min(has, 3);
            c.dueEnd("has " + has, x, 0, 5, 24 - 8 * sent, 6, has, 7, sent);
            x.go(2);
            c.dueHeard("has " + has, x, 1, 7, 1, 0, sent, 0);
            c.dueEnd("has " + has, x, 1, 9, sent);
            c.due("none behind these", x.got(1, sent), Checks.UNKNOWN);
        }
    }

    /** "and of TOLD + 64 - NEXT": RATE 24, DELAY 8; the FRAME that comes in TICK 111 (p 36) is HURT. */
    void terms2NoMoreThan64BehindTold() {
        String line = "ffffffff/ffffffff;8";
        TwoModems x = Checks.on(line);
        for (int k = 0; k < 7; k++) {
            Checks.speak(x, 0, "abcdefghijklmnopqrstuvwxyz01");
        }
        x.call(0);
        Checks.pass(x, 111);
        Checks.read(x, line + "h1,0");
        x.go(1);
        Checks.read(x, line);
        x.go(12);
        c.dueEnd("TICK 123: three", x, 0, 5, 0, 7, 99, 8, 36);
        x.go(1);
        c.dueEnd("TICK 124: one", x, 0, 5, 16, 7, 100, 8, 36);
        x.go(1);
        c.dueEnd("TICK 125: none", x, 0, 5, 24, 7, 100, 8, 36);
        x.go(7);
        c.dueHeard("FRAME of TICK 124", x, 1, 7, 1, 99, 1, 0);
        x.go(1);
        c.dueHeard("FRAME of TICK 125", x, 1, 7, 1, 100, 0, 0);
        c.dueEnd("none of these is GOT", x, 1, 9, 36);
    }

    /** "if p is GOT": FRAMES ahead of what is GOT and behind it. That of TICK 100 comes in TICK 108. */
    void terms2OnlyIfPIsGot() {
        TwoModems x = called("88888888/88888888;1", 100);
        Checks.speak(x, 1, "Z");
        Checks.read(x, "88888888/88888888;8");
        x.go(1);
        Checks.read(x, "88888888/88888888;1");
        x.go(1);
        Checks.speak(x, 1, "YX");
        x.go(2);
        c.dueHeard("TICK 103 has the FRAME of TICK 102", x, 0, 7, 1, 1, 2, 0);
        c.dueEnd("p 1 is more than GOT", x, 0, 9, 0);
        x.go(3);
        c.dueEnd("TICK 106: sent again", x, 1, 7, 3, 10, 0);
        Checks.read(x, "88888888/88888888;8");
        x.go(1);
        c.dueHeard("TICK 107", x, 0, 7, 1, 0, 3, 0);
        c.dueText("GOT", Checks.gotText(x, 0), "ZYX");
        x.go(1);
        c.dueHeard("TICK 108 has the FRAME of TICK 100", x, 0, 7, 1, 0, 1, 0);
        c.dueText("p 0 is less than GOT", Checks.gotText(x, 0), "ZYX");
    }

    /** "TOLD is a, if a is more": the FRAME of TICK 100 with a 0 comes in TICK 108. */
    void terms2ToldDoesNotShrink() {
        TwoModems x = called("88888888/88888888;1", 100);
        Checks.read(x, "88888888/88888888;8");
        x.go(1);
        Checks.speak(x, 0, "A");
        Checks.read(x, "88888888/88888888;1");
        x.go(6);
        c.dueEnd("TICK 106", x, 0, 7, 1, 8, 1);
        Checks.read(x, "88888888/88888888;8");
        x.go(2);
        c.dueHeard("TICK 108", x, 0, 7, 1, 0, 0, 0);
        c.dueEnd("TICK 108", x, 0, 0, DATA, 7, 1, 8, 1, 10, 0);
    }

    /** "FRAME of its g": that of TICK 100 (g 1) comes in TICK 108, in which END 0 is in DATA with g 2. */
    void terms2AFrameOfAnOlderGIsNotGot() {
        TwoModems x = called("88888888/88888888;1", 100);
        Checks.speak(x, 1, "Z");
        Checks.read(x, "88888888/88888888;8h0,1");
        x.go(1);
        c.dueEnd("sent in TICK 100", x, 1, 7, 1);
        Checks.read(x, "88888888/88888888;1h0,1");
        x.go(2);
        c.dueEnd("AGAIN in TICK 102", x, 0, 0, BARGAIN, 2, 2, 3, 15, 13, 1);
        Checks.read(x, "88888888/88888888;1");
        c.due("TICK 103", x.go(1), 1);
        c.dueEnd("END 1", x, 1, 0, BARGAIN, 2, 2);
        c.due("TICK 104", x.go(1), 2);
        c.due("TICK 105", x.go(1), 2);
        c.dueEnd("END 0", x, 0, 0, DATA, 2, 2, 4, 15);
        c.dueEnd("END 1: sent again", x, 1, 0, DATA, 2, 2, 4, 15, 7, 1);
        Checks.read(x, "88888888/88888888;1h0,1");
        x.go(1);
        c.dueEnd("HURT in TICK 106", x, 0, 9, 0, 15, 1);
        Checks.read(x, "88888888/88888888;8");
        x.go(2);
        c.dueHeard("TICK 108", x, 0, 7, 1, 0, 1, 0);
        c.dueEnd("TICK 108", x, 0, 0, DATA, 2, 2, 9, 0, 15, 4);
    }

    /** "OFFER of a greater g: g is that; into BARGAIN" in DATA: LOSSES are reckoned with first, (c) is left out. */
    void terms2AnOfferOfAGreaterGInData() {
        TwoModems x = called(PLAIN, 80);
        Checks.speak(x, 1, "Q");
        Checks.read(x, PLAIN + "h0,1");
        x.go(3);
        c.dueEnd("AGAIN in TICK 82", x, 0, 0, BARGAIN, 2, 2, 3, 15, 13, 1);
        Checks.read(x, PLAIN);
        x.go(1);
        c.dueEnd("TICK 83", x, 1, 0, DATA, 2, 1, 10, 3);
        x.go(1);
        c.dueHeard("TICK 84", x, 1, 5, 2, 15, 0, 0);
        c.dueEnd("TICK 84", x, 1, 0, BARGAIN, 1, 1, 2, 2, 3, 16, 4, 16, 10, 3, 13, 0);
    }

    /** "6 AGREE: .. OFFER of a greater g: g is that; into BARGAIN." END 1 hears nothing in TICKS 56 to 64. */
    void terms2AnOfferOfAGreaterGInAgree() {
        TwoModems x = called(PLAIN, 56);
        Checks.read(x, PLAIN + "h1,1");
        x.go(9);
        c.dueEnd("AGAIN in TICK 63", x, 0, 0, BARGAIN, 1, 2, 2, 2, 3, 15, 13, 1);
        c.dueEnd("TICK 64", x, 1, 0, AGREE, 1, 12, 2, 1, 4, 16);
        Checks.read(x, PLAIN);
        c.due("TICK 65", x.go(1), 1);
        c.dueHeard("TICK 65", x, 1, 5, 2, 15, 0, 0);
        c.dueEnd("TICK 65", x, 1, 0, BARGAIN, 1, 1, 2, 2, 3, 16, 4, 16);
    }

    /** "g is 1 more, its OFFER 1 less": round by round, as far as OFFER goes. */
    void terms2OfferIsOneLessByAgain() {
        TwoModems x = called("c0000000/c0000000;2", 100);
        c.dueEnd("at first", x, 0, 0, DATA, 2, 1, 3, 3, 4, 3);
        for (int k = 1; k <= 2; k++) {
            Checks.read(x, "c0000000/c0000000;2h0,1");
            x.go(3);
            c.dueEnd("AGAIN " + k, x, 0, 0, BARGAIN, 2, 1 + k, 3, 3 - k, 13, k);
            Checks.read(x, "c0000000/c0000000;2");
            x.go(50);
            c.dueEnd("DATA " + k, x, 0, 0, DATA, 2, 1 + k, 3, 3 - k, 4, 3 - k, 14, 1 + k);
            c.dueEnd("DATA " + k, x, 1, 0, DATA, 2, 1 + k, 3, 3, 4, 3 - k, 13, 0, 14, 1 + k);
        }
        Checks.read(x, "c0000000/c0000000;2h0,1");
        x.go(10);
        c.dueEnd("no more", x, 0, 0, DATA, 2, 3, 3, 1, 13, 2);
    }

    private static String facts(TwoModems x, int end) {
        StringBuilder all = new StringBuilder().append(x.end(end, 0));
        for (int what = 2; what < 16; what++) {
            all.append(' ').append(x.end(end, what));
        }
        for (int band = 0; band < 8; band++) {
            all.append(' ').append(x.band(end, band));
        }
        for (int tap = 0; tap < 4; tap++) {
            all.append(' ').append(x.learnt(end, tap));
        }
        return all.toString();
    }

    private void dueNothing(String when, TwoModems x, int end, int phase, int sort) {
        c.dueEnd(when, x, end, 0, phase);
        String before = facts(x, end);
        x.go(1);
        c.dueHeard(when, x, end, sort);
        c.dueText(when, facts(x, end), before);
    }

    /** "What an END hears that is not told for its PHASE changes nothing": 0 REST, and 1 CALL. */
    void terms2NothingElseIsHeardInRestAndCall() {
        int[] ticks = {7, 21, 52, 56, 57};
        int[] sorts = {3, 4, 5, 6, 7};
        for (int k = 0; k < ticks.length; k++) {
            TwoModems x = Checks.on(PLAIN);
            Checks.speak(x, 0, "ABC");
            x.call(0);
            x.go(ticks[k]);
            x.hang(1);
            dueNothing("REST", x, 1, REST, sorts[k]);
            x = Checks.on(PLAIN);
            Checks.speak(x, 0, "ABC");
            x.call(0);
            x.go(ticks[k]);
            x.hang(1);
            x.call(1);
            dueNothing("CALL", x, 1, CALL, sorts[k]);
        }
        TwoModems x = called(PLAIN, 1);
        dueNothing("REST", x, 1, REST, 0);
        x.hang(0);
        x.go(2);
        dueNothing("REST", x, 0, REST, 2);
        x = called(PLAIN, 1);
        x.call(1);
        dueNothing("CALL", x, 1, CALL, 0);
        dueNothing("CALL", x, 1, CALL, 1);
        dueNothing("CALL", x, 0, CALL, 1);
    }

    /** The same: 2 ANSWER, 3 PROBE. */
    void terms2NothingElseIsHeardInAnswerAndProbe() {
        TwoModems x = called(PLAIN, 3);
        dueNothing("ANSWER", x, 1, ANSWER, 1);
        x = new TwoModems();
        x.call(0);
        x.call(1);
        x.go(1);
        x.hang(0);
        x.hang(1);
        x.go(2);
        dueNothing("ANSWER", x, 0, ANSWER, 0);
        dueNothing("ANSWER", x, 0, ANSWER, 2);
        dueNothing("ANSWER", x, 1, ANSWER, 2);
        x = called(PLAIN, 5);
        dueNothing("PROBE", x, 0, PROBE, 2);
        x.go(10);
        dueNothing("PROBE", x, 0, PROBE, 0);
    }

    /** The same: 4 TRAIN, 5 BARGAIN, 6 AGREE, 7 DATA. */
    void terms2NothingElseIsHeardBehindProbe() {
        TwoModems x = called(PLAIN, 19);
        dueNothing("TRAIN", x, 0, TRAIN, 0);
        x.go(5);
        dueNothing("TRAIN", x, 0, TRAIN, 4);
        x = called(PLAIN, 51);
        dueNothing("BARGAIN", x, 0, BARGAIN, 4);
        x = called(PLAIN, 54);
        dueNothing("AGREE", x, 1, AGREE, 5);
        dueNothing("AGREE", x, 1, AGREE, 5);
        x = called(PLAIN, 80);
        x.hang(1);
        x.call(1);
        x.go(2);
        c.dueEnd("CREDIT is 24", x, 0, 5, 24);
        dueNothing("DATA", x, 0, DATA, 1);
        x = called(SLOW, 100);
        x.hang(1);
        x.go(9);
        x.call(1);
        x.go(2);
        c.dueEnd("SILENCE in TICKS 102 to 110", x, 0, 0, DATA, 15, 255);
        x.go(1);
        c.dueHeard("TICK 111", x, 0, 1);
        c.dueEnd("CALL is no SILENCE", x, 0, 0, DATA, 15, 254);
    }

    /** "TOLD .., NEXT .., GOT stay, whatever PHASE comes"; "Letters .. are numbered from 0 ever" */
    void terms2LettersAreNumberedEver() {
        TwoModems x = Checks.on(PLAIN);
        Checks.speak(x, 0, "ABC");
        Checks.speak(x, 1, "VW");
        x.call(0);
        x.go(80);
        c.dueEnd("TICK 79", x, 0, 7, 3, 8, 3, 9, 2);
        x.hang(0);
        x.hang(1);
        x.go(10);
        c.dueEnd("REST", x, 0, 7, 3, 8, 3, 9, 2);
        c.dueEnd("REST", x, 1, 7, 2, 8, 2, 9, 3);
        c.due("said later", Checks.speak(x, 0, "D"), 4);
        x.call(1);
        x.go(80);
        c.dueEnd("the second time", x, 0, 0, DATA, 6, 4, 7, 4, 8, 4, 9, 2, 14, 2);
        c.dueEnd("the second time", x, 1, 0, DATA, 7, 2, 8, 2, 9, 4, 14, 2);
        c.dueText("GOT", Checks.gotText(x, 1), "ABCD");
        c.due("nothing was sent twice", x.count(8), 0);
    }

    /** "all are 0 at first, as are g, OFFER, RATE, REMAINS" */
    void terms2AllAre0AtFirst() {
        TwoModems x = new TwoModems();
        for (int end = 0; end < 2; end++) {
            c.dueEnd("at first", x, end, 2, 0, 3, 0, 4, 0, 5, 0, 6, 0, 7, 0, 8, 0, 9, 0, 10, 0, 11, 0, 15, 0);
        }
    }

    /** "An object is used for at most 512 calls": the 512th still answers. */
    void terms0The512thCall() {
        TwoModems x = new TwoModems();
        c.due("the first call", x.call(0), 1);
        for (int calls = 2; calls <= 510; calls++) {
            x.go(100);
        }
        c.due("the 511th call", x.go(100), 0);
        c.due("the 512th call", x.count(1), 51000);
    }
}
