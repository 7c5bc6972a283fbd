import java.util.Map;
import java.util.Set;
import java.util.TreeMap;
import java.util.TreeSet;

/**
 * Sentences of the document that name no bound: what is heard out of its place, what stays whatever comes, which of
 * two things in one TICK is first, and that a call changes what is told of it alone. Over DELAY 1 an END 0 that calls
 * ahead of TICK 0 and END 1 come into
 * END 0: CALL 0, PROBE 2, TRAIN 14, BARGAIN 46, AGREE 48, DATA 49;
 * END 1: ANSWER 1, PROBE 3, TRAIN 15, BARGAIN 47, AGREE 48, DATA 49.
 */
public final class SentencesTest {
    private static final String PLAIN = Checks.PLAIN;
    private static final String NEAR = "88888888/88888888;1", FAR = "88888888/88888888;8";
    /** OFFER 1 at both ENDS, so that nothing is bargained anew. */
    private static final String SLOW_NEAR = "40000000/04000000;1", SLOW_FAR = "40000000/04000000;8";
    private static final int REST = 0, CALL = 1, ANSWER = 2, PROBE = 3, TRAIN = 4, BARGAIN = 5, AGREE = 6, DATA = 7;
    /** The sorts of SIGNALS, where they are not named as the PHASE of that number. */
    private static final int OFFER = 5, FRAME = 7;

    private final Checks c = new Checks();

    public static void main(String[] args) throws ReflectiveOperationException {
        SentencesTest t = new SentencesTest();
        t.c.runAll(t);
        t.c.finish();
    }

    private static TwoModems called(String line, int ticks) {
        TwoModems x = Checks.on(line);
        x.call(0);
        Checks.pass(x, ticks);
        return x;
    }

    private static void pass(TwoModems x, String line, int ticks) {
        Checks.read(x, line);
        Checks.pass(x, ticks);
    }

    // ---- what is told, by name, and which of it a call or a TICK changed

    private static Map<String, Integer> endTold(TwoModems x, int end) {
        Map<String, Integer> told = new TreeMap<>();
        for (int what = 0; what < 16; what++) {
            told.put(end + " end " + what, x.end(end, what));
        }
        for (int band = 0; band < 8; band++) {
            told.put(end + " band " + band, x.band(end, band));
        }
        for (int tap = 0; tap < 4; tap++) {
            told.put(end + " learnt " + tap, x.learnt(end, tap));
        }
        for (int place = 0; place < x.end(end, 9); place++) {
            told.put(end + " got " + place, x.got(end, place));
        }
        return told;
    }

    private static Map<String, Integer> allTold(TwoModems x) {
        Map<String, Integer> told = endTold(x, 0);
        told.putAll(endTold(x, 1));
        for (int what = 0; what < 5; what++) {
            told.put("0 heard " + what, x.heard(0, what));
            told.put("1 heard " + what, x.heard(1, what));
        }
        for (int what = 0; what < 28; what++) {
            told.put("about " + what, x.about(what));
        }
        for (int what = 0; what < 9; what++) {
            told.put("count " + what, x.count(what));
        }
        return told;
    }

    private static Set<String> changed(Map<String, Integer> before, Map<String, Integer> after) {
        Set<String> names = new TreeSet<>(before.keySet());
        names.addAll(after.keySet());
        names.removeIf(name -> before.containsKey(name) && before.get(name).equals(after.get(name)));
        return names;
    }

    /** In one TICK an END hears this, and of what it is asked for that alone changes. */
    private void dueHeardAndChanged(String when, TwoModems x, int end, int[] heard, String... changes) {
        Map<String, Integer> before = endTold(x, end);
        x.go(1);
        c.dueHeard(when, x, end, heard);
        Set<String> want = new TreeSet<>();
        for (String change : changes) {
            want.add(end + " " + change);
        }
        c.dueText(when + ": changed", changed(before, endTold(x, end)).toString(), want.toString());
    }

    private void dueNothing(String when, TwoModems x, int end, int phase, int... heard) {
        c.dueEnd(when, x, end, 0, phase);
        int lasted = x.end(end, 1);
        dueHeardAndChanged(when, x, end, heard, "end 1");
        c.dueEnd(when, x, end, 1, lasted + 1);
    }

    // ---- "What an END hears that is not told for its PHASE changes nothing."

    /** Both ENDS send a SIGNAL of a sort over DELAY 8, and hang behind that TICK. */
    private static TwoModems sentFarAndHung(int sort) {
        int[] ticks = {0, 0, 0, 0, 20, 47, 48, 60};
        TwoModems x = Checks.on(NEAR);
        Checks.speak(x, 0, "ABC");
        Checks.speak(x, 1, "VWX");
        x.call(0);
        x.go(ticks[sort]);
        Checks.speak(x, 0, "DE");
        Checks.speak(x, 1, "YZ");
        pass(x, FAR, 1);
        x.hang(0);
        x.hang(1);
        Checks.read(x, NEAR);
        return x;
    }

    /** The ENDS meet anew over DELAY 1 and hear the old SIGNALS 8 TICKS late: END 1 in ANSWER, then both in PROBE. */
    void terms2OldSignalsAreNotHeardInAnswerAndProbe() {
        int[][] numbers = {{}, {}, {}, {}, {4, 0, 0, 0, 0}, {5, 1, 16, 0, 0}, {6, 1, 16, 0, 0}, {7, 1, 3, 2, 3}};
        for (int sort = 4; sort <= 7; sort++) {
            TwoModems x = sentFarAndHung(sort);
            x.call(0);
            x.go(1);
            pass(x, FAR, 6);
            dueNothing("ANSWER", x, 1, ANSWER, numbers[sort]);
            for (int end = 0; end < 2; end++) {
                x = sentFarAndHung(sort);
                x.call(0);
                x.go(3);
                pass(x, FAR, 4);
                dueNothing("PROBE", x, end, PROBE, numbers[sort]);
            }
        }
    }

    /** The same with OFFER of a greater g: END 0 has AGAIN in TICK 62 and END 1 does not hear of it. */
    void terms2AnOldOfferOfAGreaterGIsNotHeardInAnswerAndProbe() {
        for (int phase = ANSWER; phase <= PROBE; phase++) {
            TwoModems x = called(NEAR, 60);
            pass(x, NEAR + "h0,1", 2);
            pass(x, FAR + "h0,1", 1);
            c.dueEnd("AGAIN", x, 0, 0, BARGAIN, 2, 2, 3, 15);
            x.hang(0);
            x.hang(1);
            x.call(0);
            pass(x, NEAR, phase == ANSWER ? 1 : 3);
            pass(x, FAR, phase == ANSWER ? 6 : 4);
            c.dueEnd("g of the first time", x, 1, 2, 1);
            dueNothing("PHASE " + phase, x, 1, phase, OFFER, 2, 15, 0, 0);
        }
    }

    /** CALL of TICK 0 comes in TICK 8, in which END 1 is in PROBE. */
    void terms2ACallIsNotHeardInProbe() {
        TwoModems x = called(FAR, 1);
        pass(x, NEAR, 3);
        pass(x, FAR, 4);
        dueNothing("PROBE", x, 1, PROBE, 1, 0, 0, 0, 0);
    }

    /** END 1 hears nothing until then, and stays in ANSWER. */
    void terms2TrainAndOfferAreNotHeardInAnswer() {
        TwoModems x = called(PLAIN, 4);
        pass(x, PLAIN + "h1,0", 26);
        Checks.read(x, PLAIN);
        dueNothing("ANSWER", x, 1, ANSWER, 4, 0, 0, 0, 0);
        x.go(21);
        dueNothing("ANSWER", x, 1, ANSWER, OFFER, 1, 0, 0, 0);
    }

    /** The same: END 0 hears ANSWER all that time, in TRAIN and in BARGAIN. */
    void terms2AnAnswerIsNotHeardInTrainAndBargain() {
        TwoModems x = called(PLAIN, 4);
        pass(x, PLAIN + "h1,0", 16);
        dueNothing("TRAIN", x, 0, TRAIN, 2, 0, 0, 0, 0);
        x.go(30);
        dueNothing("BARGAIN", x, 0, BARGAIN, 2, 0, 0, 0, 0);
    }

    /** END 1 hangs and calls while END 0 is in TRAIN, in BARGAIN, in AGREE. */
    void terms2ACallIsNotHeardInTrainBargainAndAgree() {
        TwoModems x = called(PLAIN, 30);
        x.hang(1);
        x.call(1);
        x.go(2);
        dueNothing("TRAIN", x, 0, TRAIN, 1, 0, 0, 0, 0);
        x.go(20);
        dueNothing("BARGAIN", x, 0, BARGAIN, 1, 0, 0, 0, 0);
        x = called(PLAIN, 53);
        x.hang(1);
        x.call(1);
        c.due("END 0 hears OFFER of TICK 52", x.go(2), 1);
        dueNothing("AGREE", x, 0, AGREE, 1, 0, 0, 0, 0);
    }

    /** PROBE 5 of TICK 8 comes in TICK 16, in which END 0 is in TRAIN: DELAY was 1 in TICK 14. */
    void terms2AProbeIsNotHeardInTrain() {
        TwoModems x = called(NEAR, 6);
        pass(x, FAR, 8);
        pass(x, NEAR, 1);
        c.dueEnd("END 0 comes into TRAIN in TICK 14", x, 0, 0, TRAIN, 1, 1);
        pass(x, FAR, 1);
        dueNothing("TRAIN", x, 0, TRAIN, 3, 5, 0, 0, 0);
        c.due("BAND 5 is not noted", x.band(0, 5), 0);
    }

    /** DELAY is 4 when END 1 would come into TRAIN, so that OFFER of END 0 comes ahead of its end. */
    void terms2AnOfferIsNotHeardInTrain() {
        TwoModems x = called(PLAIN, 19);
        pass(x, "88888888/88888888;4", 35);
        c.dueEnd("END 0", x, 0, 0, BARGAIN, 2, 1);
        c.dueEnd("END 1", x, 1, 0, TRAIN, 2, 0);
        dueNothing("TRAIN", x, 1, TRAIN, OFFER, 1, 16, 0, 0);
    }

    /** TRAIN of TICK 46 comes in TICK 54: END 0 hears it in DATA, or in AGREE, if AGREE is HURT in TICK 49. */
    void terms2TrainIsNotHeardInAgreeAndData() {
        for (int phase = AGREE; phase <= DATA; phase++) {
            TwoModems x = called(NEAR, 46);
            pass(x, FAR, 1);
            pass(x, NEAR, 2);
            pass(x, phase == AGREE ? FAR + "h0,1" : FAR, 1);
            pass(x, FAR, 4);
            if (phase == AGREE) {
                dueNothing("AGREE", x, 0, AGREE, 4, 0, 0, 0, 0);
            } else {
                c.dueEnd("none came in four TICKS", x, 0, 0, DATA, 5, 24, 15, 15);
                dueHeardAndChanged("DATA", x, 0, new int[] {4, 0, 0, 0, 0}, "end 1", "end 15");
                c.dueEnd("TRAIN is no SILENCE", x, 0, 0, DATA, 15, 30);
            }
        }
    }

    /** END 1 is still in AGREE, when END 0 is in DATA. */
    void terms2AgreeIsNotHeardInData() {
        TwoModems x = called(PLAIN, 56);
        c.dueEnd("TICK 55", x, 0, 0, DATA, 5, 16);
        dueHeardAndChanged("TICK 56", x, 0, new int[] {6, 1, 16, 0, 0}, "end 1", "end 5");
    }

    // ---- "bargained anew .. by rounds, so that none is mistaken for an older one"

    /** END 0 has AGAIN in TICK 62, and is in AGREE from TICK 65 on; FRAME of TICK 62 (g 1) comes in TICK 70. */
    void terms2SilenceAndAFrameOfAnOlderGInAgree() {
        TwoModems x = called(NEAR, 60);
        pass(x, NEAR + "h0,1", 2);
        pass(x, FAR + "h0,1", 1);
        pass(x, NEAR, 2);
        pass(x, FAR, 1);
        c.dueEnd("TICK 65", x, 0, 0, AGREE, 1, 1, 2, 2, 4, 15, 15, 7);
        for (int tick = 66; tick < 70; tick++) {
            dueNothing("TICK " + tick, x, 0, AGREE, 0, 0, 0, 0, 0);
        }
        dueNothing("TICK 70", x, 0, AGREE, FRAME, 1, 0, 0, 0);
        x.go(2);
        c.due("AGREE of TICK 65 comes in TICK 73, both hear it", x.go(1), 2);
        c.dueHeard("TICK 73", x, 0, 6, 2, 15, 0, 0);
        c.dueEnd("TICK 73", x, 0, 0, DATA);
    }

    /** END 1 stays in AGREE of g 1 until TICK 59; what it sent in TICK 57 comes to END 0 in TICK 65. */
    void terms2AgreeOfAnOlderGInBargainAndAgree() {
        TwoModems x = called(NEAR, 49);
        pass(x, NEAR + "h1,0", 1);
        pass(x, NEAR + "h1,1", 7);
        c.dueEnd("TICK 56", x, 0, 0, DATA, 1, 8);
        c.dueEnd("TICK 56", x, 1, 0, AGREE, 1, 9);
        pass(x, FAR + "h1,1", 1);
        c.dueEnd("AGAIN in TICK 57", x, 0, 0, BARGAIN, 2, 2, 3, 15, 13, 1);
        pass(x, NEAR, 1);
        dueNothing("TICK 59: AGREE of TICK 58", x, 0, BARGAIN, 6, 1, 16, 0, 0);
        c.dueEnd("TICK 59", x, 1, 0, BARGAIN, 2, 2);
        pass(x, FAR, 1);
        c.dueEnd("TICK 60", x, 0, 0, AGREE, 2, 2, 4, 15);
        x.go(4);
        dueNothing("TICK 65: AGREE of TICK 57", x, 0, AGREE, 6, 1, 16, 0, 0);
    }

    // ---- (b): what is heard

    /** "2 ANSWER: (b) PROBE b: into PROBE, and that is noted, too": PROBE 0 and 1 are HURT, PROBE 2 is the first. */
    void terms2AnyProbeEndsAnswer() {
        TwoModems x = called(PLAIN, 6);
        pass(x, PLAIN + "h1,0", 2);
        c.dueEnd("TICK 7", x, 1, 0, ANSWER);
        pass(x, "12345678/88888888;2", 1);
        c.dueHeard("TICK 8", x, 1, 3, 2, 0, 0, 0);
        c.dueEnd("TICK 8", x, 1, 0, PROBE, 1, 1);
        for (int band = 0; band < 8; band++) {
            c.due("BAND " + band, x.band(1, band), band == 2 ? 3 : 0);
        }
    }

    /** "PROBE b: it notes of BAND b the QUALITY .. (as it is now)", also of one that it has noted already. */
    void terms2ABandIsNotedAnew() {
        TwoModems x = Checks.on(NEAR);
        x.call(1);
        x.go(2);
        pass(x, FAR, 1);
        pass(x, NEAR, 2);
        c.dueEnd("END 0 in TICK 4", x, 0, 0, PROBE, 1, 1);
        x.hang(1);
        x.call(1);
        pass(x, "00000000/70000000;8", 5);
        c.due("BAND 0 is not noted yet", x.band(0, 0), 0);
        pass(x, "00000000/70000000;1", 1);
        c.due("PROBE 0 of TICK 2 in TICK 10", x.band(0, 0), 7);
        c.dueEnd("END 1 heard ANSWER of TICK 2", x, 1, 0, PROBE, 1, 1);
        pass(x, "00000000/30000000;1", 1);
        c.dueHeard("PROBE 0 of TICK 10 in TICK 11", x, 0, 3, 0, 0, 0, 0);
        c.due("is noted, too", x.band(0, 0), 3);
    }

    /** "RATE is ..: into AGREE, but into REST, if RATE is 0 so": RATE was 16 the first time. */
    void terms2RateIs0WhereItWasNot() {
        TwoModems x = called(PLAIN, 80);
        c.dueEnd("the first time", x, 0, 4, 16);
        c.dueEnd("the first time", x, 1, 4, 16);
        x.hang(0);
        x.hang(1);
        pass(x, "00000000/88888888;2", 3);
        x.call(0);
        x.go(54);
        c.dueEnd("OFFER 16 against 0", x, 1, 0, REST, 1, 1, 3, 0, 4, 0, 12, 0);
        c.dueEnd("not yet", x, 0, 0, BARGAIN, 3, 16, 4, 16);
        x.go(1);
        c.dueEnd("OFFER 0 against 16", x, 0, 0, REST, 1, 1, 3, 16, 4, 0, 12, 0);
    }

    /** "if p is GOT, its n letters are GOT, too ..; TOLD is a, if a is more": also where p is not GOT. */
    void terms2ToldGrowsWherePIsNotGot() {
        TwoModems x = called(PLAIN, 100);
        Checks.speak(x, 1, "Z");
        x.go(1);
        Checks.speak(x, 0, "A");
        x.go(1);
        pass(x, PLAIN + "h0,1", 1);
        pass(x, PLAIN, 2);
        c.dueEnd("TICK 104", x, 0, 7, 1, 8, 0, 9, 0);
        x.go(1);
        c.dueHeard("TICK 105", x, 0, FRAME, 1, 1, 0, 1);
        c.dueEnd("TICK 105", x, 0, 7, 1, 8, 1, 9, 0, 10, 0);
    }

    /** "(b) LOSSES are twice what they were ..": also in the TICK in which OFFER of a greater g is heard. */
    void terms2LossesAreReckonedAheadOfAnOffer() {
        TwoModems x = called(PLAIN, 80);
        pass(x, PLAIN + "h1,1", 1);
        pass(x, PLAIN + "h0,1", 2);
        c.dueEnd("AGAIN in TICK 82", x, 0, 0, BARGAIN, 2, 2);
        c.dueEnd("TICK 82", x, 1, 0, DATA, 15, 4);
        x.go(2);
        c.dueHeard("TICK 84", x, 1, OFFER, 2, 15, 0, 0);
        c.dueEnd("TICK 84", x, 1, 0, BARGAIN, 15, 16);
    }

    // ---- (c): which is first

    /** ".. NEXT is TOLD. Then, if three or more ..: AGAIN": both in TICK 108, or AGAIN a TICK earlier. */
    void terms2WaitingIsLookedAtAheadOfLosses() {
        for (int first = 105; first <= 106; first++) {
            TwoModems x = called(PLAIN, 100);
            Checks.speak(x, 0, "A");
            x.go(2);
            pass(x, PLAIN + "h1,0", 1);
            pass(x, PLAIN, first - 103);
            pass(x, PLAIN + "h0,1", 2);
            c.dueEnd("two are lost", x, 0, 0, DATA, 7, 1, 8, 0, 10, first + 1 - 100, 15, 3);
            c.due("the third", x.go(1), 1);
            c.dueEnd("AGAIN", x, 0, 0, BARGAIN, 7, first == 105 ? 1 : 0, 8, 0, 10, first == 105 ? 7 : 0, 13, 1, 15, 7);
        }
    }

    /** "(TOLD is less than NEXT)": over DELAY 8 letters are TOLD only when NEXT has gone back and is behind TOLD. */
    void terms2ToldMayBeMoreThanNext() {
        TwoModems x = called(SLOW_FAR, 150);
        Checks.speak(x, 0, "ABCDEF");
        x.go(1);
        c.dueEnd("TICK 150: three are sent", x, 0, 5, 0, 7, 3, 8, 0);
        pass(x, SLOW_NEAR, 6);
        c.dueEnd("TICK 156: WAITED was 6", x, 0, 5, 6, 7, 0, 8, 0, 10, 0);
        pass(x, SLOW_FAR, 2);
        c.dueEnd("TICK 158: one is sent again", x, 0, 5, 0, 7, 1, 8, 0, 10, 0);
        c.dueEnd("TICK 158: all three are GOT", x, 1, 9, 3);
        c.due("number 0", x.count(8), 1);
        x.go(7);
        c.dueEnd("TICK 165", x, 0, 5, 7, 7, 1, 8, 0, 10, 7);
        x.go(1);
        c.dueEnd("TICK 166: TOLD is 3, one is sent again", x, 0, 5, 0, 7, 2, 8, 3, 10, 0);
        c.due("numbers 0 and 1", x.count(8), 2);
        x.go(1);
        c.dueEnd("TICK 167: nothing is waited for", x, 0, 7, 2, 8, 3, 10, 0);
        x.go(7);
        c.dueEnd("TICK 174", x, 0, 7, 3, 8, 3, 10, 0);
        c.due("numbers 0 to 2, though they are TOLD", x.count(8), 3);
        x.go(8);
        c.dueEnd("TICK 182", x, 0, 7, 4, 8, 3);
        c.due("number 3 is sent for the first time", x.count(8), 3);
    }

    // ---- "TOLD, NEXT, GOT stay, whatever PHASE comes, but for what is told here"

    /**
     * Both ENDS gave up twice, had AGAIN once, are in DATA with g 2, and heard nothing in 16 TICKS: of all that is
     * told of an END nothing is 0.
     */
    private static TwoModems rich() {
        String line = "c4444444/c4444444;2";
        TwoModems x = Checks.on(line);
        for (int tap = 0; tap < 4; tap++) {
            x.echo(0, tap, 30 - 20 * tap);
            x.echo(1, tap, 15 * tap - 25);
        }
        x.call(0);
        x.call(1);
        Checks.pass(x, 125);
        Checks.speak(x, 0, "abcdefghijklmnopqrstuvwxyz");
        Checks.speak(x, 1, "zyxwvutsrqponmlkjihgfedcba");
        x.call(0);
        x.go(50);
        x.echo(0, 0, 55);
        x.go(2);
        x.echo(1, 0, 0);
        x.go(30);
        pass(x, line + "h1,1", 3);
        pass(x, line, 41);
        pass(x, line + "h1,1", 16);
        return x;
    }

    private void dueRich() {
        for (int end = 0; end < 2; end++) {
            TwoModems x = rich();
            c.dueEnd("rich", x, end, 0, DATA, 2, 2, 3, 1, 4, 1, 12, 2, 13, 1, 14, 2, 15, 255);
            for (Map.Entry<String, Integer> told : endTold(x, end).entrySet()) {
                c.due(told.getKey() + " is not 0", told.getValue() != 0 ? 1 : 0, 1);
            }
            c.due("NEXT is not TOLD", x.end(end, 7) > x.end(end, 8) ? 1 : 0, 1);
        }
    }

    /** By the PHASE that an END comes from and that into which it comes: which of what is told of it may change. */
    private static final String[][] MAY_CHANGE = {
        {"end 1", "", "end [01]", "", "", "", "", ""},
        {"end (0|1|12)", "end 1", "", "(end [01]|band .)", "", "", "", ""},
        {"end (0|1|12)", "", "end 1", "(end [01]|band .)", "", "", "", ""},
        {"", "", "", "(end 1|band .)", "(end [01]|band .|learnt .)", "", "", ""},
        {"", "", "", "", "(end 1|learnt .)", "end (0|1|2|3|11)", "", ""},
        {"end (0|1|4|12)", "", "", "", "", "end 1", "end [014]", ""},
        {"end (0|1|12)", "", "", "", "", "end [012]", "end 1", "end (0|1|5|7|10|14|15)"},
        {"end (0|1|12)", "", "", "", "", "", "", ".*"}};

    /** A tour is made of c (call) and h (hang) with an END, L with a LINE, g with TICKS. It is left at a TICK. */
    private static void play(TwoModems x, String tour, int leftAt) {
        int left = leftAt;
        for (String step : tour.split(" ")) {
            String told = step.substring(1);
            switch (step.charAt(0)) {
                case 'c': x.call(Integer.parseInt(told)); break;
                case 'h': x.hang(Integer.parseInt(told)); break;
                case 'L': Checks.read(x, told); break;
                default:
                    int ticks = Integer.parseInt(told);
                    Checks.pass(x, Math.min(left, ticks));
                    left -= ticks;
                    if (left < 0) {
                        return;
                    }
                    break;
            }
        }
    }

    /** An object is asked in one TICK alone: all of a tour would be far above its 512 calls. */
    private TwoModems dueTour(String tour, int ticks, int changes) {
        for (int tick = 0; tick < ticks; tick++) {
            for (int end = 0; end < 2; end++) {
                TwoModems x = rich();
                play(x, tour, tick);
                Map<String, Integer> before = endTold(x, end);
                x.go(1);
                dueMayChange(tour + " in TICK " + tick, x, end, before);
            }
        }
        TwoModems x = rich();
        int changesBefore = x.count(6), ticksBefore = x.count(1);
        play(x, tour, ticks);
        c.due(tour + " has TICKS", x.count(1) - ticksBefore, ticks);
        c.due(tour + " has changes of PHASE", x.count(6) - changesBefore, changes);
        return x;
    }

    private void dueMayChange(String when, TwoModems x, int end, Map<String, Integer> before) {
        int from = before.get(end + " end 0"), to = x.end(end, 0);
        for (String name : changed(before, endTold(x, end))) {
            c.due(when + " from PHASE " + from + " to " + to + ": " + name + " changed",
                name.substring(2).matches(MAY_CHANGE[from][to]) ? 1 : 0, 1);
        }
    }

    /** Giving up in DATA, then all PHASES up to DATA, by END 0's CALL and by END 1's. */
    void terms2AllStaysWhateverPhaseComes() {
        dueRich();
        for (int caller = 0; caller < 2; caller++) {
            TwoModems x = dueTour("g1 L88888888/88888888;2 g3 c" + caller + " g57", 61, 2 + 11);
            c.dueEnd("DATA", x, 0, 0, DATA, 12, 3, 13, 1, 14, 3);
            c.dueEnd("DATA", x, 1, 0, DATA, 12, 3, 13, 1, 14, 3);
        }
    }

    /** The same: giving up in ANSWER and CALL, then REST by RATE 0; giving up in AGREE and BARGAIN. */
    void terms2AllStaysWhereItEndsInRest() {
        TwoModems x = dueTour("g1 L88888888/88888888;2 c0 g3 h0 c0 L88888888/88888888;2h1,1 g61 g3"
            + " L00000000/00000000;2 c0 g60", 128, 2 + 1 + 2 + 9);
        c.dueEnd("RATE 0", x, 0, 0, REST, 4, 0, 12, 4);
        c.dueEnd("RATE 0", x, 1, 0, REST, 4, 0, 12, 4);
        x = dueTour("g1 L88888888/88888888;2 c0 g54 L88888888/88888888;2h1,1 g60", 115, 2 + 8 + 2);
        c.dueEnd("given up in BARGAIN", x, 0, 0, REST, 2, 1, 4, 1, 12, 4);
        c.dueEnd("given up in AGREE", x, 1, 0, REST, 2, 1, 4, 16, 12, 4);
    }

    // ---- a call changes what is told of it, and no more

    private interface Calls {
        void on(TwoModems x);
    }

    /** Both ENDS heard FRAMES with letters in the latest TICK. */
    private static TwoModems talking() {
        TwoModems x = Checks.on("c4444444/c4444444;2");
        Checks.speak(x, 0, "abcdefghijklmnopqrstuvwxyz");
        Checks.speak(x, 1, "zyxwvutsrqponmlkjihgfedcba");
        x.echo(1, 2, 5);
        x.call(0);
        x.go(62);
        return x;
    }

    private void dueChangedBy(String call, Calls ahead, Calls made, String want) {
        for (TwoModems x : new TwoModems[] {rich(), talking()}) {
            ahead.on(x);
            Map<String, Integer> before = allTold(x);
            made.on(x);
            c.dueText(call + " changed", changed(before, allTold(x)).toString(), want);
        }
    }

    /** What is talking has heard something in the latest TICK, which stays so. */
    void promise15TalkingEndsHeardFrames() {
        TwoModems x = talking();
        // RATE is 10: n is 1, 1, 1, 2, 1 from TICK 55 on (END 0) and from TICK 56 on (END 1)
        c.dueHeard("FRAME of TICK 59", x, 0, FRAME, 1, 3, 2, 3);
        c.dueHeard("FRAME of TICK 59", x, 1, FRAME, 1, 5, 1, 2);
    }

    /** Of what is told, "how many THE PAGE has"; THE PAGE is empty again by blank(). */
    void promise2LetterAndBlankChangeThePageAlone() {
        dueChangedBy("letter", x -> { }, x -> x.letter('!'), "[count 0]");
        dueChangedBy("blank", x -> x.letter('!'), x -> x.blank(), "[count 0]");
    }

    /** "THE PAGE is read as THE LINE (what is on its way stays so)" */
    void promise5LineChangesTheLineAlone() {
        dueChangedBy("line", x -> Checks.write(x, "01235670/89abcdef;7h6,5"), x -> x.line(),
            "[about 0, about 1, about 10, about 11, about 12, about 13, about 14, about 15, about 16, about 17, "
            + "about 2, about 20, about 21, about 22, about 23, about 24, about 25, about 26, about 27, count 0, count 7]");
    }

    /** "Letters of THE PAGE (whichever) are behind those that an END has to send .. THE PAGE is empty then." */
    void promise6SayChangesWhatIsToBeSentAlone() {
        dueChangedBy("say(0)", x -> Checks.write(x, "more"), x -> x.say(0), "[0 end 6, count 0]");
        dueChangedBy("say(1)", x -> Checks.write(x, "more"), x -> x.say(1), "[1 end 6, count 0]");
    }

    /** "A TAP of the ECHO of an END becomes v": nothing but the digest tells of it. */
    void promise7EchoChangesATapAlone() {
        dueChangedBy("echo", x -> { }, x -> x.echo(1, 2, -99), "[]");
        TwoModems x = rich();
        long digest = x.digest();
        c.due("echo", x.echo(1, 2, -99), 5);
        c.due("the digest tells of it", x.digest() != digest ? 1 : 0, 1);
        c.due("echo", x.echo(1, 2, 5), -99);
        c.due("and that it is as it was", x.digest(), digest);
    }

    /** "An END goes to CALL"; "An END goes to REST": PHASE and LASTED of that END change. */
    void promise8And9CallAndHangChangeThePhaseAlone() {
        for (int end = 0; end < 2; end++) {
            int e = end;
            String phaseAndLasted = "[" + end + " end 0, " + end + " end 1]";
            Calls hungAndHeard = x -> {
                x.hang(e);
                pass(x, PLAIN, 2);
                c.dueHeard("in REST", x, e, FRAME);
            };
            Calls hungAndCalled = x -> {
                x.hang(e);
                x.call(e);
            };
            dueChangedBy("hang", x -> { }, x -> x.hang(e), phaseAndLasted);
            dueChangedBy("call", hungAndHeard, x -> x.call(e), phaseAndLasted);
            dueChangedBy("hang without a TICK between", hungAndCalled, x -> x.hang(e), "[" + end + " end 0]");
        }
    }
}
