/** Two modems at the two ends of one line. What it promises stands in ../shared/DOC.md. */
public final class TwoModems {
    public static final int NONE = -1, UNKNOWN = -1001, OUTSIDE = -1002, STATE = -1003, FULL = -1004;

    private static final int BANDS = 8, TAPS = 4;

    private final Page page;
    private final Line line;
    private final Modem zero;
    private final Modem one;
    private int ticks;

    public TwoModems() {
        Line common = new Line();
        page = new Page();
        line = common;
        zero = new Modem(common, common.back, common.forth);
        one = new Modem(common, common.forth, common.back);
        ticks = 0;
    }

    // ---- texts

    public int letter(int code) {
        if (code < 32 || code > 126) {
            return OUTSIDE;
        }
        if (page.size >= Page.MOST) {
            return FULL;
        }
        page.add(code);
        return page.size;
    }

    public int blank() {
        int had = page.size;
        page.size = 0;
        return had;
    }

    public int fault() {
        return page.firstFault();
    }

    public int line() {
        if (!page.isLine()) {
            return STATE;
        }
        line.read(page);
        page.size = 0;
        return line.delay;
    }

    public int say(int end) {
        Modem modem = modemAt(end);
        if (modem == null) {
            return UNKNOWN;
        }
        if (modem.mail.said + page.size > Mail.MOST) {
            return FULL;
        }
        for (int place = 0; place < page.size; place++) {
            modem.mail.add(page.codeAt(place));
        }
        page.size = 0;
        return modem.mail.said;
    }

    // ---- ends

    public int echo(int end, int tap, int v) {
        Modem modem = modemAt(end);
        if (modem == null || tap < 0 || tap >= TAPS) {
            return UNKNOWN;
        }
        if (v < -100 || v > 100) {
            return OUTSIDE;
        }
        int was = modem.echo.taps[tap];
        modem.echo.taps[tap] = v;
        return was;
    }

    public int call(int end) {
        Modem modem = modemAt(end);
        if (modem == null) {
            return UNKNOWN;
        }
        if (modem.phase != Phase.REST) {
            return STATE;
        }
        modem.force(Phase.CALL);
        return 1;
    }

    public int hang(int end) {
        Modem modem = modemAt(end);
        if (modem == null) {
            return UNKNOWN;
        }
        if (modem.phase == Phase.REST) {
            return STATE;
        }
        int was = modem.phase;
        modem.force(Phase.REST);
        return was;
    }

    public int go(int n) {
        if (n < 1 || n > 100) {
            return OUTSIDE;
        }
        int before = changes();
        for (int k = 0; k < n; k++) {
            zero.live(ticks);
            one.live(ticks);
            ticks++;
        }
        return changes() - before;
    }

    // ---- what is told

    public int end(int end, int what) {
        Modem modem = modemAt(end);
        return modem == null ? UNKNOWN : modem.fact(what);
    }

    public int band(int end, int band) {
        Modem modem = modemAt(end);
        if (modem == null || band < 0 || band >= BANDS) {
            return UNKNOWN;
        }
        return modem.noted[band];
    }

    public int learnt(int end, int tap) {
        Modem modem = modemAt(end);
        if (modem == null || tap < 0 || tap >= TAPS) {
            return UNKNOWN;
        }
        return modem.echo.learnt[tap];
    }

    public int got(int end, int place) {
        Modem modem = modemAt(end);
        if (modem == null || place < 0 || place >= modem.mail.taken) {
            return UNKNOWN;
        }
        return modem.mail.takenAt(place);
    }

    public int heard(int end, int what) {
        Modem modem = modemAt(end);
        if (modem == null) {
            return UNKNOWN;
        }
        if (what < 0 || what > 4) {
            return OUTSIDE;
        }
        return modem.in.latest[what];
    }

    public int about(int what) {
        if (what >= 10 && what < 10 + BANDS) {
            return line.forth.quality[what - 10];
        }
        if (what >= 20 && what < 20 + BANDS) {
            return line.back.quality[what - 20];
        }
        switch (what) {
            case 0: return line.delay;
            case 1: return line.forth.hurt;
            case 2: return line.back.hurt;
            case 3: return line.forth.underWay + line.back.underWay;
            default: return OUTSIDE;
        }
    }

    public int count(int what) {
        switch (what) {
            case 0: return page.size;
            case 1: return ticks;
            case 2: return line.forth.came;
            case 3: return line.back.came;
            case 4: return line.forth.harmed;
            case 5: return line.back.harmed;
            case 6: return changes();
            case 7: return line.readings;
            case 8: return zero.mail.repeated + one.mail.repeated;
            default: return OUTSIDE;
        }
    }

    public long digest() {
        long h = digestOfEnd(1, digestOfEnd(0, 1613L));
        for (int what = 0; what < 4; what++) {
            h = 31 * h + about(what);
        }
        for (int what = 10; what < 10 + BANDS; what++) {
            h = 31 * h + about(what);
        }
        for (int what = 20; what < 20 + BANDS; what++) {
            h = 31 * h + about(what);
        }
        for (int place = 0; place < page.size; place++) {
            h = 31 * h + page.codeAt(place);
        }
        for (int what = 0; what < 9; what++) {
            h = 31 * h + count(what);
        }
        return h;
    }

    private long digestOfEnd(int end, long start) {
        Modem modem = modemAt(end);
        if (modem == null) {
            return start;
        }
        long h = start;
        for (int what = 0; what < 16; what++) {
            h = 31 * h + modem.fact(what);
        }
        for (int band = 0; band < BANDS; band++) {
            h = 31 * h + modem.noted[band];
        }
        for (int tap = 0; tap < TAPS; tap++) {
            h = 31 * h + modem.echo.learnt[tap];
        }
        for (int tap = 0; tap < TAPS; tap++) {
            h = 31 * h + modem.echo.taps[tap];
        }
        for (int what = 0; what < 5; what++) {
            h = 31 * h + modem.in.latest[what];
        }
        for (int place = 0; place < modem.mail.taken; place++) {
            h = 31 * h + modem.mail.takenAt(place);
        }
        return h;
    }

    private Modem modemAt(int end) {
        if (end == 0) {
            return zero;
        }
        return end == 1 ? one : null;
    }

    private int changes() {
        return zero.changes + one.changes;
    }

    /** The numbers of the PHASES. */
    private static final class Phase {
        static final int REST = 0, CALL = 1, ANSWER = 2, PROBE = 3, TRAIN = 4, BARGAIN = 5, AGREE = 6, DATA = 7;
    }

    /** The numbers of the sorts of SIGNALS. */
    private static final class Sort {
        static final int SILENCE = 0, CALL = 1, ANSWER = 2, PROBE = 3, TRAIN = 4, OFFER = 5, AGREE = 6, FRAME = 7;
    }

    /** THE PAGE, and what a LINE asks of each of its places. */
    private static final class Page {
        static final int MOST = 30;
        private static final int DELAY_AT = 18, HURT_AT = 20, MOST_HURT = 50;

        private final int[] codes = new int[MOST];
        int size = 0;

        void add(int code) {
            if (size >= 0 && size < MOST) {
                codes[size] = code;
                size++;
            }
        }

        int codeAt(int place) {
            return place >= 0 && place < size && place < MOST ? codes[place] : 0;
        }

        int firstFault() {
            for (int place = 0; place < size; place++) {
                if (!fits(place)) {
                    return place;
                }
            }
            return size;
        }

        boolean isLine() {
            if (firstFault() < size) {
                return false;
            }
            int comma = commaAhead(size);
            return size == DELAY_AT + 1 || comma >= 0 && size > comma + 1;
        }

        int qualityAt(int way, int band) {
            return figure(codeAt(9 * way + band));
        }

        int delay() {
            return codeAt(DELAY_AT) - '0';
        }

        int hurtOf(int way) {
            int comma = commaAhead(size);
            if (comma < 0) {
                return 0;
            }
            return way == 0 ? number(HURT_AT, comma) : number(comma + 1, size);
        }

        /** Whether a LINE may have the letter there, if all ahead of it fit. */
        private boolean fits(int place) {
            int code = codeAt(place);
            switch (place) {
                case 8: return code == '/';
                case 17: return code == ';';
                case DELAY_AT: return code >= '1' && code <= '8';
                case 19: return code == 'h';
                default: return place < 17 ? figure(code) >= 0 : fitsHurt(place, code);
            }
        }

        private boolean fitsHurt(int place, int code) {
            int comma = commaAhead(place);
            int start = comma < 0 ? HURT_AT : comma + 1;
            if (code == ',') {
                return comma < 0 && place > start;
            }
            if (code < '0' || code > '9') {
                return false;
            }
            if (place == start) {
                return true;
            }
            int ahead = number(start, place);
            return ahead > 0 && ahead * 10 + (code - '0') <= MOST_HURT;
        }

        private int commaAhead(int place) {
            for (int k = HURT_AT; k < place; k++) {
                if (codeAt(k) == ',') {
                    return k;
                }
            }
            return NONE;
        }

        private int number(int from, int behind) {
            int value = 0;
            for (int place = from; place < behind; place++) {
                value = value * 10 + (codeAt(place) - '0');
            }
            return value;
        }

        private int figure(int code) {
            if (code >= '0' && code <= '9') {
                return code - '0';
            }
            return code >= 'a' && code <= 'f' ? code - 'a' + 10 : NONE;
        }
    }

    /** THE LINE: two WAYS and what is common to both. */
    private static final class Line {
        final Way forth = new Way();
        final Way back = new Way();
        int delay = 2;
        int readings = 0;

        void read(Page page) {
            for (int band = 0; band < BANDS; band++) {
                forth.quality[band] = page.qualityAt(0, band);
                back.quality[band] = page.qualityAt(1, band);
            }
            delay = page.delay();
            forth.hurt = page.hurtOf(0);
            back.hurt = page.hurtOf(1);
            readings++;
        }
    }

    /** One WAY: the SIGNALS that are on it, each kept by the TICK in which it comes, and what came last. */
    private static final class Way {
        static final int LETTERS = 3;
        /** DELAY is 8 at most, so no two TICKS that are still to be waited for share one of 16 rows. */
        private static final int ROWS = 16;
        private static final int FIRST_LETTER = 5, WIDTH = FIRST_LETTER + LETTERS;

        final int[] quality = new int[BANDS];
        final int[] latest = new int[WIDTH];
        private final int[] rows = new int[ROWS * WIDTH];
        private final boolean[] full = new boolean[ROWS];
        int hurt = 0;
        int came = 0;
        int harmed = 0;
        int underWay = 0;

        Way() {
            for (int band = 0; band < BANDS; band++) {
                quality[band] = 8;
            }
        }

        void send(int tick, int sort, int first, int second, int letters, int told) {
            int row = tick & (ROWS - 1);
            if (!full[row]) {
                full[row] = true;
                underWay++;
            }
            int at = row * WIDTH;
            rows[at] = sort;
            rows[at + 1] = first;
            rows[at + 2] = second;
            rows[at + 3] = letters;
            rows[at + 4] = told;
        }

        void enclose(int tick, int place, int code) {
            if (place >= 0 && place < LETTERS) {
                rows[(tick & (ROWS - 1)) * WIDTH + FIRST_LETTER + place] = code;
            }
        }

        /** Lets come what comes in this TICK, if anything does. */
        void bring(int tick) {
            int row = tick & (ROWS - 1);
            boolean silent = true;
            if (full[row]) {
                full[row] = false;
                underWay--;
                came++;
                silent = hurt > 0 && came % hurt == 0;
                if (silent) {
                    harmed++;
                }
            }
            for (int k = 0; k < WIDTH; k++) {
                latest[k] = silent ? 0 : rows[row * WIDTH + k];
            }
        }

        int sort() {
            return latest[0];
        }

        int first() {
            return latest[1];
        }

        int second() {
            return latest[2];
        }

        int letters() {
            return latest[3];
        }

        int told() {
            return latest[4];
        }

        int enclosed(int place) {
            return place >= 0 && place < LETTERS ? latest[FIRST_LETTER + place] : 0;
        }
    }

    /** The ECHO of an END, and what that END has learnt of it, in sixteenths. */
    private static final class Echo {
        final int[] taps = new int[TAPS];
        final int[] learnt = new int[TAPS];

        void forget() {
            for (int tap = 0; tap < TAPS; tap++) {
                learnt[tap] = 0;
            }
        }

        void follow(int lasted) {
            int error = 0;
            for (int tap = 0; tap < TAPS; tap++) {
                error += (16 * taps[tap] - learnt[tap]) * sign(lasted - tap);
            }
            for (int tap = 0; tap < TAPS; tap++) {
                learnt[tap] += error * sign(lasted - tap) / 8;
            }
        }

        int remains() {
            int sum = 0;
            for (int tap = 0; tap < TAPS; tap++) {
                sum += Math.abs(16 * taps[tap] - learnt[tap]);
            }
            return sum / 16;
        }

        private int sign(int lasted) {
            if (lasted < 0) {
                return 0;
            }
            return lasted % 3 == 0 || lasted % 5 == 0 ? 1 : -1;
        }
    }

    /** The letters of an END: those that it has to send, and those GOT. */
    private static final class Mail {
        static final int MOST = 200;
        private static final int WINDOW = 64;

        private final int[] toSend = new int[MOST];
        private final int[] takenCodes = new int[MOST];
        int said = 0;
        int taken = 0;
        int told = 0;
        int next = 0;
        int repeated = 0;
        /** Numbers are sent without gaps, so all below this one were sent, and none from it on. */
        private int sentBelow = 0;

        void add(int code) {
            if (said >= 0 && said < MOST) {
                toSend[said] = code;
                said++;
            }
        }

        int takenAt(int place) {
            return place >= 0 && place < taken && place < MOST ? takenCodes[place] : 0;
        }

        void take(Way in) {
            if (in.second() == taken) {
                for (int k = 0; k < in.letters() && taken >= 0 && taken < MOST; k++) {
                    takenCodes[taken] = in.enclosed(k);
                    taken++;
                }
            }
            told = Math.max(told, in.told());
        }

        int ready(int most) {
            return Math.min(most, Math.min(said - next, told + WINDOW - next));
        }

        int pass() {
            int code = next >= 0 && next < MOST ? toSend[next] : 0;
            if (next < sentBelow) {
                repeated++;
            }
            next++;
            sentBelow = Math.max(sentBelow, next);
            return code;
        }
    }

    /** One END. */
    private static final class Modem {
        private static final int PATIENCE = 60, MOST_SILENCES = 16, TRAINING = 32, MOST_CREDIT = 24, LETTER_COST = 8;

        private final Line line;
        final Way in;
        private final Way out;
        final Echo echo = new Echo();
        final Mail mail = new Mail();
        final int[] noted = new int[BANDS];
        int phase = Phase.REST;
        int changes = 0;
        private int lasted = 0;
        /** TICKS with SILENCE behind one another up to the latest one, at the beginning of which it was in DATA. */
        private int silences = 0;
        private int round = 0;
        private int offer = 0;
        private int rate = 0;
        private int credit = 0;
        private int waited = 0;
        private int remains = 0;
        private int losses = 0;
        private int surrenders = 0;
        private int agains = 0;
        private int datas = 0;

        Modem(Line line, Way in, Way out) {
            this.line = line;
            this.in = in;
            this.out = out;
        }

        int fact(int what) {
            switch (what) {
                case 0: return phase;
                case 1: return lasted;
                case 2: return round;
                case 3: return offer;
                case 4: return rate;
                case 5: return credit;
                case 6: return mail.said;
                case 7: return mail.next;
                case 8: return mail.told;
                case 9: return mail.taken;
                case 10: return waited;
                case 11: return remains;
                case 12: return surrenders;
                case 13: return agains;
                case 14: return datas;
                case 15: return losses;
                default: return OUTSIDE;
            }
        }

        /** A change of PHASE from outside, which is none of those that go() counts. */
        void force(int next) {
            phase = next;
            lasted = 0;
        }

        void live(int tick) {
            boolean wasInData = phase == Phase.DATA;
            int changesBefore = changes;
            int toldBefore = mail.told;
            in.bring(tick);
            surrender();
            if (changes == changesBefore) {
                hear();
            }
            if (changes == changesBefore) {
                look(mail.told > toldBefore);
            }
            silences = wasInData && in.sort() == Sort.SILENCE ? silences + 1 : 0;
            speak(tick + line.delay);
            lasted++;
        }

        private void come(int next) {
            phase = next;
            lasted = 0;
            changes++;
            if (next == Phase.PROBE) {
                for (int band = 0; band < BANDS; band++) {
                    noted[band] = 0;
                }
            } else if (next == Phase.TRAIN) {
                echo.forget();
            } else if (next == Phase.DATA) {
                credit = 0;
                waited = 0;
                losses = 0;
                mail.next = mail.told;
                datas++;
            }
        }

        private void surrender() {
            boolean inData = phase == Phase.DATA;
            boolean tooLong = phase != Phase.REST && !inData && lasted >= PATIENCE;
            if (tooLong || inData && silences >= MOST_SILENCES) {
                surrenders++;
                come(Phase.REST);
            }
        }

        private void hear() {
            int sort = in.sort();
            switch (phase) {
                case Phase.REST:
                    if (sort == Sort.CALL) {
                        come(Phase.ANSWER);
                    }
                    break;
                case Phase.CALL:
                    if (sort == Sort.ANSWER) {
                        come(Phase.PROBE);
                    }
                    break;
                case Phase.ANSWER:
                    if (sort == Sort.PROBE) {
                        come(Phase.PROBE);
                        note(in.first());
                    }
                    break;
                case Phase.PROBE:
                    if (sort == Sort.PROBE) {
                        note(in.first());
                    }
                    break;
                case Phase.BARGAIN:
                    hearInBargain();
                    break;
                case Phase.AGREE:
                    if (isOfRound(Sort.AGREE) || isOfRound(Sort.FRAME)) {
                        come(Phase.DATA);
                    } else {
                        hearGreaterRound();
                    }
                    break;
                case Phase.DATA:
                    hearInData();
                    break;
                default:
                    break;
            }
        }

        private void note(int band) {
            if (band >= 0 && band < BANDS) {
                noted[band] = in.quality[band];
            }
        }

        private boolean isOfRound(int sort) {
            return in.sort() == sort && in.first() == round;
        }

        private void hearGreaterRound() {
            if (in.sort() == Sort.OFFER && in.first() > round) {
                round = in.first();
                come(Phase.BARGAIN);
            }
        }

        private void hearInBargain() {
            if (isOfRound(Sort.OFFER)) {
                settle(Math.min(in.second(), offer));
            } else if (isOfRound(Sort.AGREE)) {
                settle(in.second());
            } else {
                hearGreaterRound();
            }
        }

        private void settle(int agreed) {
            rate = agreed;
            come(rate == 0 ? Phase.REST : Phase.AGREE);
        }

        private void hearInData() {
            losses = (2 * losses + (in.sort() == Sort.SILENCE ? 1 : 0)) & 255;
            if (isOfRound(Sort.FRAME)) {
                mail.take(in);
            } else {
                hearGreaterRound();
            }
        }

        private void look(boolean toldGrew) {
            if (phase == Phase.PROBE && lasted >= 10 + 2 * line.delay) {
                come(Phase.TRAIN);
            } else if (phase == Phase.TRAIN && lasted >= TRAINING) {
                round = 1;
                makeOffer();
                come(Phase.BARGAIN);
            } else if (phase == Phase.DATA) {
                lookAtWaiting(toldGrew);
                lookAtLosses();
            }
        }

        private void makeOffer() {
            remains = echo.remains();
            offer = 0;
            for (int band = 0; band < BANDS; band++) {
                int clear = Math.max(0, noted[band] - remains / 20);
                offer += Math.min(3, clear / 4);
            }
        }

        private void lookAtWaiting(boolean toldGrew) {
            waited = mail.told < mail.next && !toldGrew ? waited + 1 : 0;
            if (waited >= 2 * line.delay + 4) {
                waited = 0;
                mail.next = mail.told;
            }
        }

        private void lookAtLosses() {
            if (Integer.bitCount(losses) >= 3 && offer > 1 && lasted >= 8) {
                agains++;
                round++;
                offer--;
                come(Phase.BARGAIN);
            }
        }

        private void speak(int due) {
            switch (phase) {
                case Phase.CALL:
                    out.send(due, Sort.CALL, 0, 0, 0, 0);
                    break;
                case Phase.ANSWER:
                    out.send(due, Sort.ANSWER, 0, 0, 0, 0);
                    break;
                case Phase.PROBE:
                    speakProbe(due);
                    break;
                case Phase.TRAIN:
                    out.send(due, Sort.TRAIN, 0, 0, 0, 0);
                    echo.follow(lasted);
                    break;
                case Phase.BARGAIN:
                    out.send(due, Sort.OFFER, round, offer, 0, 0);
                    break;
                case Phase.AGREE:
                    out.send(due, Sort.AGREE, round, rate, 0, 0);
                    break;
                case Phase.DATA:
                    speakFrame(due);
                    break;
                default:
                    out.send(due, Sort.SILENCE, 0, 0, 0, 0);
                    break;
            }
        }

        private void speakProbe(int due) {
            if (lasted < BANDS) {
                out.send(due, Sort.PROBE, lasted, 0, 0, 0);
            } else {
                out.send(due, Sort.SILENCE, 0, 0, 0, 0);
            }
        }

        private void speakFrame(int due) {
            credit = Math.min(MOST_CREDIT, credit + rate);
            int letters = mail.ready(credit / LETTER_COST);
            out.send(due, Sort.FRAME, round, mail.next, letters, mail.taken);
            for (int place = 0; place < letters; place++) {
                out.enclose(due, place, mail.pass());
            }
            credit -= LETTER_COST * letters;
        }
    }
}
