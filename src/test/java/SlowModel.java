import java.util.ArrayList;
import java.util.List;
import java.util.regex.Matcher;
import java.util.regex.Pattern;

/** What the document says, done second by second and by trying all: slow, and written apart from the program. */
final class SlowModel {
    private static final int NONE = -6, UNKNOWN = -1, OUTSIDE = -2, STATE = -3, FULL = -4, NO = -5;
    private static final long LOST = -1000000000000000000L;
    private static final Pattern TEXT = Pattern.compile("((([A-F?]!?|\\.)[1-9][0-9]?)|,)*");
    private static final Pattern PART = Pattern.compile("(?<who>[A-F?.])(?<fire>!?)(?<d>[1-9][0-9]?)|,");

    /** All but the pad. */
    private static final class World {
        int[] glass = new int[6];
        int time = 0;
        int bound = 9;
        int fire = 2;
        List<int[]> talk = new ArrayList<>();
        List<int[]> sights = new ArrayList<>();

        World twin() {
            World w = new World();
            w.glass = glass.clone();
            w.time = time;
            w.bound = bound;
            w.fire = fire;
            w.talk = new ArrayList<>(talk);
            w.sights = new ArrayList<>(sights);
            return w;
        }

        void second(int speaker) {
            for (int p = 0; p < 6; p++) {
                if (p != speaker && glass[p] > -bound) {
                    glass[p]--;
                }
            }
            time++;
        }

        boolean part(int who, boolean isFire, int d) {
            if (who >= 0 && !isFire && glass[who] > 0) {
                return false;
            }
            for (int i = 0; i < d; i++) {
                second(who);
            }
            if (who >= 0) {
                glass[who] += isFire ? fire * d : d;
            }
            return true;
        }

        int lose(int p, int s) {
            int lost = 0;
            for (int i = 0; i < s; i++) {
                if (glass[p] > -bound) {
                    glass[p]--;
                } else {
                    lost++;
                }
            }
            return lost;
        }
    }

    private World now = new World();
    private final World[] images = new World[2];
    private String pad = "";

    private static boolean person(int p) {
        return p >= 0 && p <= 5;
    }

    private static boolean in(int v, int a, int b) {
        return v >= a && v <= b;
    }

    long call(String name, int... a) {
        switch (name) {
            case "set": return set(a[0], a[1]);
            case "say": return say(a[0]);
            case "wipe": return wipe();
            case "fault": return fault();
            case "judge": return judge();
            case "done": return done();
            case "behind": return behind(a[0]);
            case "free": return free(a[0]);
            case "answer": return answer(a[0], a[1]);
            case "give": return give(a[0], a[1], a[2]);
            case "saying": return saying(a[0], a[1], a[2]);
            case "drop": return drop();
            case "soonest": return soonest(a[0]);
            case "whom": return whom(a[0], a[1]);
            case "quarrel": return quarrel(a[0], a[1], a[2], a[3], a[4], a[5]);
            case "length": return length(a[0], a[1], a[2]);
            case "seen": return seen(a[0], a[1]);
            case "forget": return forget();
            case "filled": return filled(a[0]);
            case "burns": return burns(a[0], a[1]);
            case "year": return year(a[0], a[1], a[2]);
            case "image": return image(a[0]);
            case "restore": return restore(a[0]);
            case "told": return told(a[0]);
            default: throw new IllegalArgumentException(name);
        }
    }

    private int set(int which, int v) {
        int old = which == 0 ? now.bound : now.fire;
        if (which == 0 && in(v, 0, 99)) {
            now.bound = v;
            return old;
        }
        if (which == 1 && in(v, 1, 4)) {
            now.fire = v;
            return old;
        }
        return OUTSIDE;
    }

    private int say(int sign) {
        if (!in(sign, 33, 126)) {
            return OUTSIDE;
        }
        if (pad.length() == 60) {
            return FULL;
        }
        pad += (char) sign;
        return pad.length();
    }

    private int wipe() {
        int old = pad.length();
        pad = "";
        return old;
    }

    private static int asks(String text) {
        return (int) text.chars().filter(c -> c == '?').count();
    }

    /** Whether some text begins like this. */
    private static boolean canBegin(String text) {
        Matcher m = TEXT.matcher(text);
        boolean matches = m.matches();
        return (matches || m.hitEnd()) && asks(text) <= 3;
    }

    private int fault() {
        for (int i = 0; i < pad.length(); i++) {
            if (!canBegin(pad.substring(0, i + 1))) {
                return i;
            }
        }
        return TEXT.matcher(pad).matches() ? NONE : pad.length();
    }

    /** The first part that can not be, or NONE; ready[0]: seconds in which the counted one (-1: none) could call out. */
    private int run(World w, String text, int counted, int[] ready) {
        Matcher m = PART.matcher(text);
        int part = 0;
        while (m.find()) {
            if (m.group().equals(",")) {
                for (int p = 0; p < 6; p++) {
                    w.glass[p] = w.glass[p] > 0 ? 0 : w.glass[p];
                }
            } else {
                int who = m.group("who").equals(".") ? -1 : m.group("who").charAt(0) - 'A';
                int d = Integer.parseInt(m.group("d"));
                World copy = w.twin();
                for (int i = 0; i < d && counted >= 0; i++) {
                    if (who != counted && copy.glass[counted] <= 0) {
                        ready[0]++;
                    }
                    copy.second(who);
                }
                if (!w.part(who, !m.group("fire").isEmpty(), d)) {
                    return part;
                }
            }
            part++;
        }
        return NONE;
    }

    private int refusal() {
        if (fault() != NONE) {
            return NO;
        }
        return asks(pad) > 0 ? STATE : 0;
    }

    private int judge() {
        return refusal() != 0 ? refusal() : run(now.twin(), pad, -1, null);
    }

    private int wholeRefusal() {
        if (refusal() != 0) {
            return refusal();
        }
        return run(now.twin(), pad, -1, null) != NONE ? NO : 0;
    }

    private int done() {
        if (wholeRefusal() != 0) {
            return wholeRefusal();
        }
        int before = now.time;
        run(now, pad, -1, null);
        pad = "";
        return now.time - before;
    }

    private int behind(int p) {
        if (p != -1 && !person(p)) {
            return UNKNOWN;
        }
        if (wholeRefusal() != 0) {
            return wholeRefusal();
        }
        World w = now.twin();
        run(w, pad, -1, null);
        return p == -1 ? w.time - now.time : w.glass[p] + 1000;
    }

    private int free(int p) {
        if (!person(p)) {
            return UNKNOWN;
        }
        World w = now.twin();
        while (w.glass[p] > 0) {
            w.second(-1);
        }
        return w.time - now.time;
    }

    private int answer(int p, int d) {
        if (!person(p)) {
            return UNKNOWN;
        }
        if (!in(d, 1, 99)) {
            return OUTSIDE;
        }
        World w = now.twin();
        if (!w.part(p, false, d)) {
            return STATE;
        }
        int bits = 0;
        for (int q = 5; q >= 0; q--) {
            bits = 2 * bits + (w.glass[q] <= 0 ? 1 : 0);
        }
        return bits;
    }

    private int give(int p, int q, int s) {
        if (!person(p) || !person(q) || p == q) {
            return UNKNOWN;
        }
        if (!in(s, 1, 99)) {
            return OUTSIDE;
        }
        if (now.glass[p] + s > 0) {
            return STATE;
        }
        now.glass[p] += s;
        return now.lose(q, s);
    }

    private int saying(int p, int d, int behind) {
        if (!person(p) || behind != -1 && !in(behind, 0, now.talk.size() - 1)) {
            return UNKNOWN;
        }
        if (!in(d, 1, 99)) {
            return OUTSIDE;
        }
        if (now.talk.size() == 7) {
            return FULL;
        }
        now.talk.add(new int[] {p, d, behind});
        return now.talk.size();
    }

    private int drop() {
        int old = now.talk.size();
        now.talk.clear();
        return old;
    }

    /** All orders; seconds of the best one at 0, its sayings behind that. */
    private static int[] best(World w) {
        int[] best = new int[w.talk.size() + 1];
        best[0] = Integer.MAX_VALUE;
        orders(w, w.time, new ArrayList<>(), best);
        return best;
    }

    private static void orders(World w, int start, List<Integer> said, int[] best) {
        if (said.size() == w.talk.size()) {
            if (w.time - start < best[0]) {
                best[0] = w.time - start;
                for (int i = 0; i < said.size(); i++) {
                    best[i + 1] = said.get(i);
                }
            }
            return;
        }
        for (int i = 0; i < w.talk.size(); i++) {
            int[] s = w.talk.get(i);
            if (said.contains(i) || s[2] >= 0 && !said.contains(s[2])) {
                continue;
            }
            World then = w.twin();
            while (then.glass[s[0]] > 0) {
                then.second(-1);
            }
            then.part(s[0], false, s[1]);
            said.add(i);
            orders(then, start, said, best);
            said.remove(said.size() - 1);
        }
    }

    private int soonest(int i) {
        if (i < -2 || i >= now.talk.size()) {
            return NONE;
        }
        int[] best = best(now);
        int speech = now.talk.stream().mapToInt(s -> s[1]).sum();
        return i == -1 ? best[0] : i == -2 ? best[0] - speech : best[i + 1];
    }

    private int whom(int s, int what) {
        if (!in(s, 1, 99) || !in(what, 0, 1)) {
            return OUTSIDE;
        }
        int who = -1;
        int fewest = Integer.MAX_VALUE;
        for (int p = 0; p < 6; p++) {
            World w = now.twin();
            w.lose(p, s);
            int seconds = best(w)[0];
            if (seconds < fewest) {
                fewest = seconds;
                who = p;
            }
        }
        return what == 0 ? who : fewest;
    }

    private int quarrel(int p, int a, int q, int b, int t, int what) {
        if (!person(p) || !person(q) || p == q) {
            return UNKNOWN;
        }
        if (!in(a, 1, 99) || !in(b, 1, 99) || !in(t, 0, 999) || !in(what, 0, 1)) {
            return OUTSIDE;
        }
        World w = now.twin();
        int over = 0;
        int silent = 0;
        int speaker = -1;
        int left = 0;
        boolean first = true;
        for (int i = 0; i < t; i++) {
            int next = first ? p : q;
            if (speaker == -1 && w.glass[next] <= 0) {
                speaker = next;
                left = first ? a : b;
            }
            w.second(speaker);
            if (speaker == -1) {
                silent++;
                continue;
            }
            left--;
            if (left == 0) {
                w.glass[speaker] += first ? a : b;
                over++;
                first = !first;
                speaker = -1;
            }
        }
        return what == 0 ? over : silent;
    }

    private int length(int p, int t, int what) {
        if (!person(p)) {
            return UNKNOWN;
        }
        if (!in(t, 0, 999) || !in(what, 0, 1)) {
            return OUTSIDE;
        }
        int best = NONE;
        int most = 0;
        for (int d = 99; d >= 1; d--) {
            World w = now.twin();
            int sum = 0;
            while (w.time - now.time <= t) {
                if (!w.part(p, false, d)) {
                    w.second(-1);
                } else if (w.time - now.time <= t) {
                    sum += d;
                }
            }
            if (sum > 0 && sum >= most) {
                most = sum;
                best = d;
            }
        }
        return what == 0 ? best : most;
    }

    private int seen(int p, int v) {
        if (!person(p)) {
            return UNKNOWN;
        }
        if (!in(v, -99, 999)) {
            return OUTSIDE;
        }
        if (now.sights.size() == 6) {
            return FULL;
        }
        now.sights.add(new int[] {p, v});
        return now.sights.size();
    }

    private int forget() {
        int old = now.sights.size();
        now.sights.clear();
        return old;
    }

    private void fill(String text, List<String> ways) {
        int place = text.indexOf('?');
        if (place >= 0) {
            for (char c = 'A'; c <= 'F'; c++) {
                fill(text.substring(0, place) + c + text.substring(place + 1), ways);
            }
            return;
        }
        World w = now.twin();
        if (run(w, text, -1, null) == NONE && now.sights.stream().allMatch(s -> w.glass[s[0]] == s[1])) {
            ways.add(text);
        }
    }

    private int filled(int i) {
        if (fault() != NONE) {
            return NO;
        }
        List<String> ways = new ArrayList<>();
        fill(pad, ways);
        if (i == -1) {
            return ways.size();
        }
        if (i < 0 || i >= asks(pad) || ways.isEmpty()) {
            return NONE;
        }
        int place = -1;
        for (int k = 0; k <= i; k++) {
            place = pad.indexOf('?', place + 1);
        }
        return ways.get(0).charAt(place) - 'A';
    }

    private long burns(int p, int part) {
        if (!person(p)) {
            return LOST - 1;
        }
        if (!in(part, 0, 1)) {
            return LOST - 2;
        }
        if (wholeRefusal() != 0) {
            return LOST + wholeRefusal();
        }
        World w = now.twin();
        int[] ready = new int[1];
        run(w, pad, p, ready);
        int all = w.time - now.time;
        if (all == 0) {
            return LOST - 4;
        }
        int upper = ready[0];
        int lower = all;
        for (int d = all; d >= 2; d--) {
            if (upper % d == 0 && lower % d == 0) {
                upper /= d;
                lower /= d;
            }
        }
        return part == 0 ? upper : lower;
    }

    private int year(int seed, int n, int p) {
        if (!person(p)) {
            return UNKNOWN;
        }
        if (!in(seed, 0, 9999) || !in(n, 1, 99)) {
            return OUTSIDE;
        }
        World w = now.twin();
        long x = seed;
        int sayings = 0;
        for (int i = 0; i < n; i++) {
            x = (x * 75 + 74) % 65537;
            int who = (int) (x % 6);
            int d = (int) (x / 6 % 9) + 1;
            if (!w.part(who, false, d)) {
                w.second(-1);
            } else if (who == p) {
                sayings++;
            }
        }
        return sayings;
    }

    private int image(int n) {
        if (!in(n, 0, 1)) {
            return OUTSIDE;
        }
        images[n] = now.twin();
        return 1;
    }

    private int restore(int n) {
        if (!in(n, 0, 1)) {
            return OUTSIDE;
        }
        if (images[n] == null) {
            return STATE;
        }
        now = images[n].twin();
        return 1;
    }

    private int told(int what) {
        if (in(what, 10, 15)) {
            return now.glass[what - 10] + 1000;
        }
        switch (what) {
            case 0: return pad.length();
            case 1: return now.time;
            case 2: return now.bound;
            case 3: return now.fire;
            case 4: return now.talk.size();
            case 5: return now.sights.size();
            default: return OUTSIDE;
        }
    }
}
