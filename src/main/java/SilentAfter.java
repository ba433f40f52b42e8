/** A valley in which whoever has spoken is silent for the same length afterwards, by a glass about each neck. */
public final class SilentAfter {
    public static final int NONE = -6, UNKNOWN = -1, OUTSIDE = -2, STATE = -3, FULL = -4, NO = -5;
    public static final long LOST = -1000000000000000000L;

    private static final int PEOPLE = 6;
    private static final int NOBODY = -1;
    private static final int NOT_BEHIND = -1;
    private static final int GRANTED = 0;

    private static final int MOST_SECONDS = 99;
    private static final int MOST_WITHIN = 999;
    private static final int MOST_BOUND = 99;
    private static final int MOST_FIRE = 4;
    private static final int MOST_SIGNS = 60;
    private static final int MOST_ASKED = 3;
    private static final int MOST_SAYINGS = 7;
    private static final int MOST_SIGHTS = 6;
    private static final int LEAST_SIGHT = -99;
    private static final int MOST_SIGHT = 999;
    private static final int MOST_SEED = 9999;
    private static final int MOST_TURNS = 99;
    // A glass may stand below 0, and a negative answer is a refusal: so glasses are told with this on top.
    private static final int TOLD_ABOVE = 1000;
    // No talk takes as many seconds as this.
    private static final int NO_LIMIT = 1000000000;

    private final Scene now = new Scene();
    private final Scene firstImage = new Scene();
    private final Scene secondImage = new Scene();
    private final Text text = new Text();
    // What would be is tried here and in the search: no call makes an object.
    private final Valley trial = new Valley();
    private final Search search = new Search();
    private final int[] people = new int[MOST_ASKED];

    public SilentAfter() {
    }

    // ---- 1 glasses, texts

    public int set(int which, int v) {
        if (which == 0 && isWithin(v, 0, MOST_BOUND)) {
            return now.valley.changeBound(v);
        }
        if (which == 1 && isWithin(v, 1, MOST_FIRE)) {
            return now.valley.changeFire(v);
        }
        return OUTSIDE;
    }

    public int say(int sign) {
        if (!isWithin(sign, 33, 126)) {
            return OUTSIDE;
        }
        return text.append(sign) ? text.signCount() : FULL;
    }

    public int wipe() {
        return text.clear();
    }

    public int fault() {
        return text.read();
    }

    public int judge() {
        int refusal = refuseText();
        if (refusal != GRANTED) {
            return refusal;
        }
        trial.copy(now.valley);
        return text.goesBy(trial, people);
    }

    public int done() {
        int refusal = tryText();
        if (refusal != GRANTED) {
            return refusal;
        }
        int seconds = trial.time() - now.valley.time();
        now.valley.copy(trial);
        text.clear();
        return seconds;
    }

    // ---- 2 who is free

    public int behind(int person) {
        if (person != -1 && !isPerson(person)) {
            return UNKNOWN;
        }
        int refusal = tryText();
        if (refusal != GRANTED) {
            return refusal;
        }
        return person == -1 ? trial.time() - now.valley.time() : trial.glass(person) + TOLD_ABOVE;
    }

    public int free(int person) {
        return isPerson(person) ? now.valley.waitOf(person) : UNKNOWN;
    }

    public int answer(int person, int d) {
        if (!isPerson(person)) {
            return UNKNOWN;
        }
        if (!isWithin(d, 1, MOST_SECONDS)) {
            return OUTSIDE;
        }
        if (!now.valley.isFree(person)) {
            return STATE;
        }
        trial.copy(now.valley);
        trial.speak(person, d);
        int bits = 0;
        for (int who = 0; who < PEOPLE; who++) {
            if (trial.isFree(who)) {
                bits |= 1 << who;
            }
        }
        return bits;
    }

    public int give(int person, int other, int s) {
        if (!isPerson(person) || !isPerson(other) || person == other) {
            return UNKNOWN;
        }
        if (!isWithin(s, 1, MOST_SECONDS)) {
            return OUTSIDE;
        }
        if (now.valley.glass(person) > -s) {
            return STATE;
        }
        now.valley.lend(person, s);
        return now.valley.receive(other, s);
    }

    // ---- 3 talks

    public int saying(int person, int d, int behind) {
        if (!isPerson(person) || behind != NOT_BEHIND && !isWithin(behind, 0, now.talk.count() - 1)) {
            return UNKNOWN;
        }
        if (!isWithin(d, 1, MOST_SECONDS)) {
            return OUTSIDE;
        }
        return now.talk.append(person, d, behind) ? now.talk.count() : FULL;
    }

    public int drop() {
        return now.talk.clear();
    }

    public int soonest(int i) {
        if (!isWithin(i, -2, now.talk.count() - 1)) {
            return NONE;
        }
        int seconds = search.fewestSeconds(now.talk, now.valley, NO_LIMIT);
        if (i == -1) {
            return seconds;
        }
        return i == -2 ? seconds - now.talk.speech() : search.placed(i);
    }

    public int whom(int s, int what) {
        if (!isWithin(s, 1, MOST_SECONDS) || !isWithin(what, 0, 1)) {
            return OUTSIDE;
        }
        int fewest = NO_LIMIT;
        int first = 0;
        for (int person = 0; person < PEOPLE; person++) {
            trial.copy(now.valley);
            trial.receive(person, s);
            int seconds = search.fewestSeconds(now.talk, trial, fewest);
            if (seconds < fewest) {
                fewest = seconds;
                first = person;
            }
        }
        return what == 0 ? first : fewest;
    }

    public int quarrel(int person, int a, int other, int b, int t, int what) {
        if (!isPerson(person) || !isPerson(other) || person == other) {
            return UNKNOWN;
        }
        if (!isWithin(a, 1, MOST_SECONDS) || !isWithin(b, 1, MOST_SECONDS)
                || !isWithin(t, 0, MOST_WITHIN) || !isWithin(what, 0, 1)) {
            return OUTSIDE;
        }
        trial.copy(now.valley);
        int end = now.valley.time() + t;
        int over = 0;
        int silent = 0;
        // A saying takes a second at least, so that no more than t are over.
        for (int turn = 0; turn < t; turn++) {
            int speaker = turn % 2 == 0 ? person : other;
            int d = turn % 2 == 0 ? a : b;
            int left = end - trial.time();
            int wait = trial.waitOf(speaker);
            silent += Math.min(wait, left);
            if (wait + d > left) {
                break;
            }
            trial.keepSilence(wait);
            trial.speak(speaker, d);
            over++;
        }
        return what == 0 ? over : silent;
    }

    public int length(int person, int t, int what) {
        if (!isPerson(person)) {
            return UNKNOWN;
        }
        if (!isWithin(t, 0, MOST_WITHIN) || !isWithin(what, 0, 1)) {
            return OUTSIDE;
        }
        int best = NONE;
        int most = 0;
        for (int d = 1; d <= MOST_SECONDS; d++) {
            int spoken = spokenAlone(now.valley.glass(person), d, t);
            if (spoken > most) {
                most = spoken;
                best = d;
            }
        }
        return what == 0 ? best : most;
    }

    // ---- 4 what is not told, fires, years

    public int seen(int person, int v) {
        if (!isPerson(person)) {
            return UNKNOWN;
        }
        if (!isWithin(v, LEAST_SIGHT, MOST_SIGHT)) {
            return OUTSIDE;
        }
        return now.sights.append(person, v) ? now.sights.count() : FULL;
    }

    public int forget() {
        return now.sights.clear();
    }

    public int filled(int i) {
        if (text.read() != NONE) {
            return NO;
        }
        int asked = text.asked();
        int all = waysToWrite(asked);
        int ways = 0;
        int first = NONE;
        for (int way = 0; way < all; way++) {
            writePeople(way, asked);
            if (!isFilledRightly()) {
                continue;
            }
            if (ways == 0 && isWithin(i, 0, asked - 1)) {
                first = at(people, i);
            }
            ways++;
        }
        return i == -1 ? ways : first;
    }

    public long burns(int person, int part) {
        if (!isPerson(person)) {
            return LOST + UNKNOWN;
        }
        if (!isWithin(part, 0, 1)) {
            return LOST + OUTSIDE;
        }
        int refusal = tryText();
        if (refusal != GRANTED) {
            return LOST + refusal;
        }
        int seconds = trial.time() - now.valley.time();
        trial.copy(now.valley);
        int ready = text.readySeconds(person, trial, people);
        int divisor = commonDivisor(ready, seconds);
        // It is 0 when both are: the text takes no time.
        if (divisor <= 0) {
            return LOST + FULL;
        }
        return (part == 0 ? ready : seconds) / divisor;
    }

    public int year(int seed, int n, int person) {
        if (!isPerson(person)) {
            return UNKNOWN;
        }
        if (!isWithin(seed, 0, MOST_SEED) || !isWithin(n, 1, MOST_TURNS)) {
            return OUTSIDE;
        }
        trial.copy(now.valley);
        int x = seed;
        int sayings = 0;
        for (int turn = 0; turn < n; turn++) {
            x = (75 * x + 74) % 65537;
            int speaker = x % PEOPLE;
            if (!trial.isFree(speaker)) {
                trial.keepSilence(1);
                continue;
            }
            trial.speak(speaker, 1 + x / PEOPLE % 9);
            if (speaker == person) {
                sayings++;
            }
        }
        return sayings;
    }

    public int image(int n) {
        if (!isWithin(n, 0, 1)) {
            return OUTSIDE;
        }
        imageOf(n).copy(now);
        imageOf(n).kept = true;
        return 1;
    }

    public int restore(int n) {
        if (!isWithin(n, 0, 1)) {
            return OUTSIDE;
        }
        if (!imageOf(n).kept) {
            return STATE;
        }
        now.copy(imageOf(n));
        return 1;
    }

    public int told(int what) {
        switch (what) {
            case 0:
                return text.signCount();
            case 1:
                return now.valley.time();
            case 2:
                return now.valley.bound();
            case 3:
                return now.valley.fire();
            case 4:
                return now.talk.count();
            case 5:
                return now.sights.count();
            default:
                return isWithin(what, 10, 9 + PEOPLE) ? now.valley.glass(what - 10) + TOLD_ABOVE : OUTSIDE;
        }
    }

    // ---- what several calls need

    /** NO or STATE for a text with a fault or some ?, else GRANTED; the text is read then. */
    private int refuseText() {
        if (text.read() != NONE) {
            return NO;
        }
        return text.asked() > 0 ? STATE : GRANTED;
    }

    /** Also NO if a saying can not begin; when GRANTED, the trial valley stands as behind the text. */
    private int tryText() {
        int refusal = refuseText();
        if (refusal != GRANTED) {
            return refusal;
        }
        trial.copy(now.valley);
        return text.goesBy(trial, people) == NONE ? GRANTED : NO;
    }

    private boolean isFilledRightly() {
        trial.copy(now.valley);
        return text.goesBy(trial, people) == NONE && now.sights.hold(trial);
    }

    /** The first ? changes slowest, so that ways come in the order of their letters. */
    private void writePeople(int way, int asked) {
        int left = way;
        for (int i = asked - 1; i >= 0; i--) {
            put(people, i, left % PEOPLE);
            left /= PEOPLE;
        }
    }

    private static int waysToWrite(int asked) {
        int ways = 1;
        for (int i = 0; i < asked; i++) {
            ways *= PEOPLE;
        }
        return ways;
    }

    /** Seconds in sayings over within t. Alone he never waits below 0, so that his glass is all that counts. */
    private static int spokenAlone(int glass, int d, int t) {
        int owed = glass;
        int gone = 0;
        int spoken = 0;
        for (int turn = 0; turn < t; turn++) {
            int wait = Math.max(owed, 0);
            if (gone + wait + d > t) {
                break;
            }
            gone += wait + d;
            owed += d - wait;
            spoken += d;
        }
        return spoken;
    }

    private Scene imageOf(int n) {
        return n == 0 ? firstImage : secondImage;
    }

    private static int commonDivisor(int a, int b) {
        int upper = a;
        int lower = b;
        // Each turn makes the lower number less; a text has far fewer seconds than this bound.
        for (int turn = 0; turn < 1000000 && lower > 0; turn++) {
            int left = upper % lower;
            upper = lower;
            lower = left;
        }
        return upper;
    }

    private static boolean isPerson(int person) {
        return isWithin(person, 0, PEOPLE - 1);
    }

    private static boolean isWithin(int v, int least, int most) {
        return v >= least && v <= most;
    }

    private static int at(int[] row, int i) {
        return i >= 0 && i < row.length ? row[i] : 0;
    }

    private static void put(int[] row, int i, int v) {
        if (i >= 0 && i < row.length) {
            row[i] = v;
        }
    }

    private static void copyRow(int[] from, int[] to) {
        for (int i = 0; i < to.length && i < from.length; i++) {
            to[i] = from[i];
        }
    }

    /** Glasses and time, and how they go on. */
    private static final class Valley {
        private final int[] glasses = new int[PEOPLE];
        private int time = 0;
        private int bound = 9;
        private int fire = 2;

        int time() {
            return time;
        }

        int bound() {
            return bound;
        }

        int fire() {
            return fire;
        }

        int glass(int person) {
            return at(glasses, person);
        }

        int changeBound(int v) {
            int old = bound;
            bound = v;
            return old;
        }

        int changeFire(int v) {
            int old = fire;
            fire = v;
            return old;
        }

        boolean isFree(int person) {
            return glass(person) <= 0;
        }

        int waitOf(int person) {
            return Math.max(glass(person), 0);
        }

        void speak(int person, int d) {
            pass(d, person);
            put(glasses, person, glass(person) + d);
        }

        void callFire(int person, int d) {
            pass(d, person);
            put(glasses, person, glass(person) + fire * d);
        }

        void keepSilence(int seconds) {
            pass(seconds, NOBODY);
        }

        void sleep() {
            for (int person = 0; person < glasses.length; person++) {
                glasses[person] = Math.min(glasses[person], 0);
            }
        }

        void lend(int person, int s) {
            put(glasses, person, glass(person) + s);
        }

        /** How many of the s seconds are lost: a glass that stands below the bound already takes none. */
        int receive(int person, int s) {
            int room = Math.max(glass(person) + bound, 0);
            int taken = Math.min(s, room);
            put(glasses, person, glass(person) - taken);
            return s - taken;
        }

        void copy(Valley other) {
            copyRow(other.glasses, glasses);
            time = other.time;
            bound = other.bound;
            fire = other.fire;
        }

        private void pass(int seconds, int speaker) {
            for (int person = 0; person < glasses.length; person++) {
                // A glass may stand below the bound, if that was told since: it stays there.
                if (person != speaker && glasses[person] > -bound) {
                    glasses[person] = Math.max(glasses[person] - seconds, -bound);
                }
            }
            time += seconds;
        }
    }

    /** The signs on the pad, and the parts that they are read as. */
    private static final class Text {
        private static final int SILENCE = -1;
        private static final int NIGHT = -2;
        // Who speaks in a part: a person, or this and the number of the ? that stands for him.
        private static final int ASKED = PEOPLE;

        // What the next sign may be: a part's first one; the same or a second digit; ! or a first digit; a first digit.
        private static final int PART = 0;
        private static final int PART_OR_DIGIT = 1;
        private static final int FIRE_OR_NUMBER = 2;
        private static final int NUMBER = 3;

        private final int[] signs = new int[MOST_SIGNS];
        private int signCount = 0;
        private final int[] speakers = new int[MOST_SIGNS];
        private final int[] fires = new int[MOST_SIGNS];
        private final int[] seconds = new int[MOST_SIGNS];
        private int parts = 0;
        private int asked = 0;
        private int next = PART;

        int signCount() {
            return signCount;
        }

        int asked() {
            return asked;
        }

        boolean append(int sign) {
            if (signCount >= MOST_SIGNS) {
                return false;
            }
            put(signs, signCount, sign);
            signCount++;
            return true;
        }

        int clear() {
            int old = signCount;
            signCount = 0;
            return old;
        }

        /** Reads the signs as parts; the place of the fault, or NONE. */
        int read() {
            parts = 0;
            asked = 0;
            next = PART;
            for (int place = 0; place < signCount; place++) {
                if (!takes(at(signs, place))) {
                    return place;
                }
            }
            return next == PART || next == PART_OR_DIGIT ? NONE : signCount;
        }

        /** The first part whose saying can not begin, or NONE: the valley is then as behind the text. */
        int goesBy(Valley valley, int[] people) {
            for (int part = 0; part < parts; part++) {
                if (!partGoesBy(part, valley, people)) {
                    return part;
                }
            }
            return NONE;
        }

        /** Seconds of a text without ?, all of which can begin, in which the person could call out at once. */
        int readySeconds(int person, Valley valley, int[] people) {
            int ready = 0;
            for (int part = 0; part < parts; part++) {
                if (at(speakers, part) != person) {
                    ready += Math.max(at(seconds, part) - valley.waitOf(person), 0);
                }
                partGoesBy(part, valley, people);
            }
            return ready;
        }

        private boolean partGoesBy(int part, Valley valley, int[] people) {
            int speaker = at(speakers, part);
            int d = at(seconds, part);
            if (speaker == NIGHT) {
                valley.sleep();
                return true;
            }
            if (speaker == SILENCE) {
                valley.keepSilence(d);
                return true;
            }
            int person = speaker >= ASKED ? at(people, speaker - ASKED) : speaker;
            if (at(fires, part) == 1) {
                valley.callFire(person, d);
                return true;
            }
            if (!valley.isFree(person)) {
                return false;
            }
            valley.speak(person, d);
            return true;
        }

        private boolean takes(int sign) {
            if (next == PART_OR_DIGIT && isWithin(sign, '0', '9')) {
                put(seconds, parts - 1, 10 * at(seconds, parts - 1) + sign - '0');
                next = PART;
                return true;
            }
            if (next == PART || next == PART_OR_DIGIT) {
                return beginsPart(sign);
            }
            if (next == FIRE_OR_NUMBER && sign == '!') {
                put(fires, parts - 1, 1);
                next = NUMBER;
                return true;
            }
            if (!isWithin(sign, '1', '9')) {
                return false;
            }
            put(seconds, parts - 1, sign - '0');
            next = PART_OR_DIGIT;
            return true;
        }

        private boolean beginsPart(int sign) {
            if (isWithin(sign, 'A', 'A' + PEOPLE - 1)) {
                addPart(sign - 'A', FIRE_OR_NUMBER);
                return true;
            }
            if (sign == '?' && asked < MOST_ASKED) {
                addPart(ASKED + asked, FIRE_OR_NUMBER);
                asked++;
                return true;
            }
            if (sign == '.') {
                addPart(SILENCE, NUMBER);
                return true;
            }
            if (sign == ',') {
                addPart(NIGHT, PART);
                return true;
            }
            return false;
        }

        private void addPart(int speaker, int then) {
            put(speakers, parts, speaker);
            put(fires, parts, 0);
            put(seconds, parts, 0);
            parts++;
            next = then;
        }
    }

    /** Sayings, some behind others. */
    private static final class Talk {
        private final int[] speakers = new int[MOST_SAYINGS];
        private final int[] seconds = new int[MOST_SAYINGS];
        private final int[] aheads = new int[MOST_SAYINGS];
        private int count = 0;

        int count() {
            return count;
        }

        int speaker(int i) {
            return at(speakers, i);
        }

        int seconds(int i) {
            return at(seconds, i);
        }

        int ahead(int i) {
            return at(aheads, i);
        }

        int speech() {
            int sum = 0;
            for (int i = 0; i < count; i++) {
                sum += at(seconds, i);
            }
            return sum;
        }

        boolean append(int person, int d, int ahead) {
            if (count >= MOST_SAYINGS) {
                return false;
            }
            put(speakers, count, person);
            put(seconds, count, d);
            put(aheads, count, ahead);
            count++;
            return true;
        }

        int clear() {
            int old = count;
            count = 0;
            return old;
        }

        void copy(Talk other) {
            copyRow(other.speakers, speakers);
            copyRow(other.seconds, seconds);
            copyRow(other.aheads, aheads);
            count = other.count;
        }
    }

    /** What glasses are said to show behind the text. */
    private static final class Sights {
        private final int[] people = new int[MOST_SIGHTS];
        private final int[] values = new int[MOST_SIGHTS];
        private int count = 0;

        int count() {
            return count;
        }

        boolean append(int person, int v) {
            if (count >= MOST_SIGHTS) {
                return false;
            }
            put(people, count, person);
            put(values, count, v);
            count++;
            return true;
        }

        int clear() {
            int old = count;
            count = 0;
            return old;
        }

        boolean hold(Valley valley) {
            for (int i = 0; i < count; i++) {
                if (valley.glass(at(people, i)) != at(values, i)) {
                    return false;
                }
            }
            return true;
        }

        void copy(Sights other) {
            copyRow(other.people, people);
            copyRow(other.values, values);
            count = other.count;
        }
    }

    /** All but the pad: as it is now, or as an image keeps it. */
    private static final class Scene {
        private final Valley valley = new Valley();
        private final Talk talk = new Talk();
        private final Sights sights = new Sights();
        private boolean kept = false;

        void copy(Scene other) {
            valley.copy(other.valley);
            talk.copy(other.talk);
            sights.copy(other.sights);
        }
    }

    /** The order by which a talk is over soonest: all orders by numbers, but those that can not be sooner. */
    private static final class Search {
        private final Valley[] valleys = new Valley[MOST_SAYINGS + 1];
        private final int[] said = new int[MOST_SAYINGS];
        private final int[] order = new int[MOST_SAYINGS];
        private final int[] bestOrder = new int[MOST_SAYINGS];
        private final int[] left = new int[PEOPLE];
        private final int[] longest = new int[PEOPLE];
        private int start = 0;
        private int fewest = 0;

        Search() {
            for (int depth = 0; depth < valleys.length; depth++) {
                valleys[depth] = new Valley();
            }
        }

        /** The fewest seconds, if less than the limit, else the limit; the first such order is kept then. */
        int fewestSeconds(Talk talk, Valley from, int limit) {
            Valley first = valleyAt(0);
            if (first == null) {
                return limit;
            }
            first.copy(from);
            start = from.time();
            fewest = limit;
            goOn(talk, 0);
            return fewest;
        }

        int placed(int i) {
            return at(bestOrder, i);
        }

        private void goOn(Talk talk, int depth) {
            // There is no valley deeper than the longest talk.
            Valley here = valleyAt(depth);
            if (here == null || leastSeconds(talk, here) >= fewest) {
                return;
            }
            if (depth >= talk.count()) {
                fewest = here.time() - start;
                copyRow(order, bestOrder);
                return;
            }
            for (int i = 0; i < talk.count(); i++) {
                if (mayBeSaid(talk, i)) {
                    sayNext(talk, i, here, depth);
                }
            }
        }

        private void sayNext(Talk talk, int i, Valley here, int depth) {
            Valley then = valleyAt(depth + 1);
            if (then == null) {
                return;
            }
            int person = talk.speaker(i);
            then.copy(here);
            then.keepSilence(then.waitOf(person));
            then.speak(person, talk.seconds(i));
            put(order, depth, i);
            put(said, i, 1);
            goOn(talk, depth + 1);
            put(said, i, 0);
        }

        private Valley valleyAt(int depth) {
            return depth >= 0 && depth < valleys.length ? valleys[depth] : null;
        }

        private boolean mayBeSaid(Talk talk, int i) {
            int ahead = talk.ahead(i);
            return at(said, i) == 0 && (ahead == NOT_BEHIND || at(said, ahead) == 1);
        }

        /**
         * No order of what is left can be over before this. Whoever has sayings left says them all, and ahead of
         * the last of them his glass must run down, while he is silent, by what it shows and by all but that last.
         */
        private int leastSeconds(Talk talk, Valley here) {
            for (int person = 0; person < PEOPLE; person++) {
                put(left, person, 0);
                put(longest, person, 0);
            }
            int least = 0;
            for (int i = 0; i < talk.count(); i++) {
                if (at(said, i) == 0) {
                    int person = talk.speaker(i);
                    int d = talk.seconds(i);
                    put(left, person, at(left, person) + d);
                    put(longest, person, Math.max(at(longest, person), d));
                    least += d;
                }
            }
            for (int person = 0; person < PEOPLE; person++) {
                if (at(left, person) > 0) {
                    int runsDown = here.glass(person) + at(left, person) - at(longest, person);
                    least = Math.max(least, at(left, person) + Math.max(runsDown, 0));
                }
            }
            return here.time() - start + least;
        }
    }
}
