import java.util.ArrayList;
import java.util.HashSet;
import java.util.List;
import java.util.Set;
import java.util.regex.Matcher;
import java.util.regex.Pattern;

/**
 * The document once more, told in another way: whole histories are kept, and every number is reckoned
 * from them anew. ModelTest lets it and TwoModems answer the same calls.
 */
final class Model {
    static final int UNKNOWN = -1001, OUTSIDE = -1002, STATE = -1003, FULL = -1004;
    private static final String HURT = "(0|[1-9]|[1-4][0-9]|50)";
    private static final Pattern LINE =
        Pattern.compile("([0-9a-f]{8})/([0-9a-f]{8});([1-8])(?:h" + HURT + "," + HURT + ")?");

    /** One SIGNAL that was sent. */
    private static final class Signal {
        int way, comesAt, sort, first, second, n, a;
        List<Integer> letters = new ArrayList<>();
    }

    /** One END, with what it went through. */
    private static final class End {
        int phase, cameAt, g, offer, rate, credit, next, told, waited, remains;
        int surrenders, agains, datas;
        int[] noted = new int[8];
        int[] taps = new int[4];
        int[] learnt = new int[4];
        List<Integer> toSend = new ArrayList<>();
        List<Integer> got = new ArrayList<>();
        Set<Integer> numbersSent = new HashSet<>();
        List<Integer> signs = new ArrayList<>();
        List<Boolean> lost = new ArrayList<>();
        List<Integer> phaseAtStart = new ArrayList<>();
        List<Signal> heard = new ArrayList<>();
    }

    private final StringBuilder page = new StringBuilder();
    private final End[] ends = {new End(), new End()};
    private final List<Signal> sent = new ArrayList<>();
    private final int[] came = new int[2];
    private final int[] harmed = new int[2];
    private String lineText = "88888888/88888888;2";
    private int now, changes, readings, repeated;

    // ---- texts

    int letter(int code) {
        if (code < ' ' || code > '~') return OUTSIDE;
        if (page.length() + 1 > 30) return FULL;
        page.append((char) code);
        return page.length();
    }

    int blank() {
        int had = page.length();
        page.setLength(0);
        return had;
    }

    int fault() {
        for (int size = 1; size <= page.length(); size++) {
            Matcher matcher = LINE.matcher(page.substring(0, size));
            if (!matcher.matches() && !matcher.hitEnd()) return size - 1;
        }
        return page.length();
    }

    int line() {
        if (!LINE.matcher(page).matches()) return STATE;
        lineText = page.toString();
        readings++;
        page.setLength(0);
        return delay();
    }

    int say(int end) {
        if (end != 0 && end != 1) return UNKNOWN;
        List<Integer> toSend = ends[end].toSend;
        if (toSend.size() + page.length() > 200) return FULL;
        page.chars().forEach(toSend::add);
        page.setLength(0);
        return toSend.size();
    }

    private int delay() {
        return Character.digit(lineText.charAt(18), 10);
    }

    private int hurt(int way) {
        Matcher matcher = LINE.matcher(lineText);
        return matcher.matches() && matcher.group(4) != null ? Integer.parseInt(matcher.group(4 + way)) : 0;
    }

    private int quality(int way, int band) {
        return Integer.parseInt(lineText.substring(9 * way + band, 9 * way + band + 1), 16);
    }

    // ---- ends

    int echo(int end, int tap, int v) {
        if (end != 0 && end != 1 || tap < 0 || tap > 3) return UNKNOWN;
        if (Math.abs((long) v) > 100) return OUTSIDE;
        int was = ends[end].taps[tap];
        ends[end].taps[tap] = v;
        return was;
    }

    int call(int end) {
        if (end != 0 && end != 1) return UNKNOWN;
        if (ends[end].phase != 0) return STATE;
        ends[end].phase = 1;
        ends[end].cameAt = now;
        return 1;
    }

    int hang(int end) {
        if (end != 0 && end != 1) return UNKNOWN;
        int was = ends[end].phase;
        if (was == 0) return STATE;
        ends[end].phase = 0;
        ends[end].cameAt = now;
        return was;
    }

    int go(int n) {
        if (n < 1 || n > 100) return OUTSIDE;
        int before = changes;
        for (int k = 0; k < n; k++) {
            tick(0);
            tick(1);
            now++;
        }
        return changes - before;
    }

    private void tick(int number) {
        End e = ends[number];
        e.phaseAtStart.add(e.phase);
        Signal s = coming(1 - number);
        e.heard.add(s);
        int told = e.told;
        if (!givesUp(e) && !hears(e, s, 1 - number)) looks(e, e.told > told);
        sends(e, number);
    }

    private Signal coming(int way) {
        Signal latest = null;
        for (Signal s : sent) {
            if (s.way == way && s.comesAt == now) latest = s;
        }
        if (latest != null) {
            came[way]++;
            if (hurt(way) > 0 && came[way] % hurt(way) == 0) {
                harmed[way]++;
                latest = null;
            }
        }
        return latest == null ? new Signal() : latest;
    }

    private boolean into(End e, int phase) {
        e.phase = phase;
        e.cameAt = now;
        changes++;
        if (phase == 3) e.noted = new int[8];
        if (phase == 4) {
            e.learnt = new int[4];
            e.signs.clear();
        }
        if (phase == 7) {
            e.credit = 0;
            e.waited = 0;
            e.lost.clear();
            e.next = e.told;
            e.datas++;
        }
        return true;
    }

    private boolean givesUp(End e) {
        boolean up = e.phase >= 1 && e.phase <= 6 && now - e.cameAt >= 60;
        if (e.phase == 7 && now >= 16) {
            up = true;
            for (int t = now - 16; t < now; t++) {
                up &= e.heard.get(t).sort == 0 && e.phaseAtStart.get(t) == 7;
            }
        }
        if (up) {
            e.surrenders++;
            into(e, 0);
        }
        return up;
    }

    private boolean hears(End e, Signal s, int way) {
        boolean newer = s.sort == 5 && s.first > e.g;
        boolean same = s.first == e.g;
        if (e.phase == 0 && s.sort == 1) return into(e, 2);
        if (e.phase == 1 && s.sort == 2) return into(e, 3);
        if (e.phase == 2 && s.sort == 3) {
            into(e, 3);
            e.noted[s.first] = quality(way, s.first);
            return true;
        }
        if (e.phase == 3 && s.sort == 3) e.noted[s.first] = quality(way, s.first);
        if (e.phase == 7) e.lost.add(s.sort == 0);
        if (e.phase >= 5 && newer) {
            e.g = s.first;
            return into(e, 5);
        }
        if (e.phase == 5 && same && (s.sort == 5 || s.sort == 6)) {
            e.rate = s.sort == 5 ? Math.min(s.second, e.offer) : s.second;
            return into(e, e.rate == 0 ? 0 : 6);
        }
        if (e.phase == 6 && same && (s.sort == 6 || s.sort == 7)) return into(e, 7);
        if (e.phase == 7 && same && s.sort == 7) {
            if (s.second == e.got.size()) e.got.addAll(s.letters);
            if (s.a > e.told) e.told = s.a;
        }
        return false;
    }

    private void looks(End e, boolean grew) {
        int lasted = now - e.cameAt;
        if (e.phase == 3 && lasted >= 10 + 2 * delay()) {
            into(e, 4);
        } else if (e.phase == 4 && lasted >= 32) {
            e.g = 1;
            e.remains = 0;
            for (int k = 0; k < 4; k++) e.remains += Math.abs(16 * e.taps[k] - e.learnt[k]);
            e.remains /= 16;
            e.offer = 0;
            for (int b = 0; b < 8; b++) {
                int v = e.noted[b] - e.remains / 20;
                e.offer += v < 4 ? 0 : v < 8 ? 1 : v < 12 ? 2 : 3;
            }
            into(e, 5);
        } else if (e.phase == 7) {
            if (e.told < e.next && !grew) e.waited++;
            else e.waited = 0;
            if (e.waited >= 2 * delay() + 4) {
                e.waited = 0;
                e.next = e.told;
            }
            if (Integer.bitCount(losses(e)) >= 3 && e.offer > 1 && lasted >= 8) {
                e.agains++;
                e.g++;
                e.offer--;
                into(e, 5);
            }
        }
    }

    private int losses(End e) {
        int bits = 0;
        for (int k = Math.max(0, e.lost.size() - 8); k < e.lost.size(); k++) {
            bits = 2 * bits + (e.lost.get(k) ? 1 : 0);
        }
        return bits;
    }

    private void sends(End e, int number) {
        int lasted = now - e.cameAt;
        Signal s = new Signal();
        s.way = number;
        s.comesAt = now + delay();
        sent.add(s);
        if (e.phase == 1) s.sort = 1;
        if (e.phase == 2) s.sort = 2;
        if (e.phase == 3 && lasted <= 7) {
            s.sort = 3;
            s.first = lasted;
        }
        if (e.phase == 4) {
            s.sort = 4;
            train(e, lasted);
        }
        if (e.phase == 5 || e.phase == 6) {
            s.sort = e.phase;
            s.first = e.g;
            s.second = e.phase == 5 ? e.offer : e.rate;
        }
        if (e.phase == 7) frame(e, s);
    }

    private void train(End e, int lasted) {
        e.signs.add(lasted % 3 == 0 || lasted % 5 == 0 ? 1 : -1);
        int[] s = new int[4];
        int error = 0;
        for (int k = 0; k < 4; k++) {
            int place = e.signs.size() - 1 - k;
            s[k] = place >= 0 ? e.signs.get(place) : 0;
            error += (16 * e.taps[k] - e.learnt[k]) * s[k];
        }
        for (int k = 0; k < 4; k++) e.learnt[k] += error * s[k] / 8;
    }

    private void frame(End e, Signal s) {
        e.credit = Math.min(24, e.credit + e.rate);
        s.sort = 7;
        s.first = e.g;
        s.second = e.next;
        s.a = e.got.size();
        while (e.credit >= 8 && e.next < e.toSend.size() && e.next < e.told + 64) {
            s.letters.add(e.toSend.get(e.next));
            if (!e.numbersSent.add(e.next)) repeated++;
            e.next++;
            e.credit -= 8;
        }
        s.n = s.letters.size();
    }

    // ---- what is told

    int end(int end, int what) {
        if (end != 0 && end != 1) return UNKNOWN;
        if (what < 0 || what > 15) return OUTSIDE;
        End e = ends[end];
        int[] all = {e.phase, now - e.cameAt, e.g, e.offer, e.rate, e.credit, e.toSend.size(), e.next, e.told,
            e.got.size(), e.waited, e.remains, e.surrenders, e.agains, e.datas, losses(e)};
        return all[what];
    }

    int band(int end, int band) {
        return (end == 0 || end == 1) && band >= 0 && band <= 7 ? ends[end].noted[band] : UNKNOWN;
    }

    int learnt(int end, int tap) {
        return (end == 0 || end == 1) && tap >= 0 && tap <= 3 ? ends[end].learnt[tap] : UNKNOWN;
    }

    int got(int end, int place) {
        if (end != 0 && end != 1 || place < 0 || place >= ends[end].got.size()) return UNKNOWN;
        return ends[end].got.get(place);
    }

    int heard(int end, int what) {
        if (end != 0 && end != 1) return UNKNOWN;
        if (what < 0 || what > 4) return OUTSIDE;
        List<Signal> heard = ends[end].heard;
        Signal s = heard.isEmpty() ? new Signal() : heard.get(heard.size() - 1);
        return new int[] {s.sort, s.first, s.second, s.n, s.a}[what];
    }

    int about(int what) {
        if (what == 0) return delay();
        if (what == 1 || what == 2) return hurt(what - 1);
        if (what == 3) {
            Set<Integer> waited = new HashSet<>();
            for (Signal s : sent) {
                if (s.comesAt >= now) waited.add(2 * s.comesAt + s.way);
            }
            return waited.size();
        }
        int way = what / 10 - 1;
        return what >= 10 && way <= 1 && what % 10 <= 7 ? quality(way, what % 10) : OUTSIDE;
    }

    int count(int what) {
        if (what < 0 || what > 8) return OUTSIDE;
        return new int[] {page.length(), now, came[0], came[1], harmed[0], harmed[1], changes, readings,
            repeated}[what];
    }

    long digest() {
        List<Integer> all = new ArrayList<>();
        for (int end = 0; end < 2; end++) {
            for (int what = 0; what <= 15; what++) all.add(end(end, what));
            for (int band = 0; band <= 7; band++) all.add(band(end, band));
            for (int tap = 0; tap <= 3; tap++) all.add(learnt(end, tap));
            for (int tap = 0; tap <= 3; tap++) all.add(ends[end].taps[tap]);
            for (int what = 0; what <= 4; what++) all.add(heard(end, what));
            all.addAll(ends[end].got);
        }
        for (int what = 0; what <= 27; what++) {
            if (about(what) != OUTSIDE) all.add(about(what));
        }
        page.chars().forEach(all::add);
        for (int what = 0; what <= 8; what++) all.add(count(what));
        long h = 1613;
        for (int number : all) h = 31 * h + number;
        return h;
    }
}
