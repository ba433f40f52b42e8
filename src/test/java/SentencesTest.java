import java.io.IOException;
import java.lang.reflect.Method;
import java.nio.file.Files;
import java.nio.file.Path;
import java.util.Arrays;
import java.util.function.ToLongFunction;
import java.util.regex.Matcher;
import java.util.regex.Pattern;

/** The document once more, from its first line to its last: each sentence, and behind it what shows that it holds. */
public final class SentencesTest {
    private static final Edges EDGES = new Edges("sentences");
    private static final Document DOC = new Document(EDGES);
    private static final int NONE = SilentAfter.NONE, UNKNOWN = SilentAfter.UNKNOWN, OUTSIDE = SilentAfter.OUTSIDE;
    private static final int STATE = SilentAfter.STATE, FULL = SilentAfter.FULL, NO = SilentAfter.NO;
    private static final long LOST = SilentAfter.LOST;

    public static void main(String[] args) throws IOException {
        whatItIs();
        face();
        terms();
        people();
        textsAndFaults();
        whoIsFree();
        talks();
        whomAndQuarrelAndLength();
        notTold();
        yearsAndBurns();
        interfaceHeads();
        promises1To7();
        promises8To11();
        promises12To17();
        promises18To22();
        promises23To25();
        notPromised();
        DOC.end();
    }

    private static void says(String text) {
        DOC.says(text);
    }

    private static void due(String what, long got, long want) {
        DOC.due(what, got, want);
    }

    private static SilentAfter on(SilentAfter x, String text) {
        return Checks.write(x, text);
    }

    private static SilentAfter pad(String text) {
        return on(new SilentAfter(), text);
    }

    private static SilentAfter behind(String text) {
        return Checks.behind(text);
    }

    private static SilentAfter bound(int v, String text) {
        SilentAfter x = new SilentAfter();
        x.set(0, v);
        on(x, text).done();
        return x;
    }

    private static int done(SilentAfter x, String text) {
        return on(x, text).done();
    }

    private static void glasses(SilentAfter x, int... want) {
        for (int person = 0; person < want.length; person++) {
            due("glass " + person, x.told(10 + person), 1000 + want[person]);
        }
    }

    private static void told(SilentAfter x, int... want) {
        for (int what = 0; what < want.length; what++) {
            due("told(" + what + ")", x.told(what), want[what]);
        }
    }

    private static void fault(String text, int want) {
        due("fault of \"" + text + "\"", pad(text).fault(), want);
    }

    private static SilentAfter talk(SilentAfter x, int... sayings) {
        for (int i = 0; i + 2 < sayings.length; i += 3) {
            x.saying(sayings[i], sayings[i + 1], sayings[i + 2]);
        }
        return x;
    }

    private static void order(SilentAfter x, int seconds, int silence, int... sayings) {
        due("seconds", x.soonest(-1), seconds);
        due("silence", x.soonest(-2), silence);
        for (int i = 0; i < sayings.length; i++) {
            due("soonest(" + i + ")", x.soonest(i), sayings[i]);
        }
    }

    /** The refusal, and that the call changes nothing of what a busy object or a full one answers then. */
    private static void refused(String what, String text, ToLongFunction<SilentAfter> call, long answer) {
        due(what, call.applyAsLong(Edges.busy(text)), answer);
        EDGES.changesNothing(what, () -> Edges.busy(text), call);
        due(what + ", full", call.applyAsLong(Edges.full(text)), answer);
        EDGES.changesNothing(what + ", full", () -> Edges.full(text), call);
    }

    private static void whatItIs() {
        DOC.passes("# SilentAfter ## What it is");
        says("As long silent as one has spoken: a valley in which whoever has said something holds his tongue for the same"
                + " length afterwards, by a glass that hangs about each neck; days of sayings told as small texts, the first"
                + " part that can not be; what glasses show, how long till one is free, who can answer whom; seconds saved"
                + " ahead, lent and given; the fire that one may always call out, at a price; talks of several sayings, some"
                + " behind others: the order by which all is said soonest; to whom seconds should be given; two who quarrel"
                + " by turns; how long one should speak each time; days in which a speaker is not told: all ways to fill"
                + " them; who is dumb when it burns, by chance, exactly; years by draws; images.");
        for (int d = 1; d <= 99; d++) {
            String text = (char) ('A' + d % 6) + "" + d;
            due("silent as long as " + text, behind(text).free(d % 6), d);
            due("a second sooner than " + text, pad(text + (d > 1 ? "." + (d - 1) : ",") + text).judge(), d > 1 ? 2 : NONE);
            due("just then, " + text, pad(text + "." + d + text).judge(), NONE);
        }
        says("An object is used for at most 512 calls after it has been made; what later calls answer is free.");
        SilentAfter x = new SilentAfter();
        for (int call = 1; call <= 510; call += 2) {
            due("call " + call, x.set(0, call % 100), call == 1 ? 9 : (call - 2) % 100);
            due("call " + (call + 1), x.told(2), call % 100);
        }
        due("call 511", x.say('A'), 1);
        due("call 512", x.fault(), 1);
    }

    private static void face() {
        DOC.passes("## The public face");
        String face = """
            public final class SilentAfter {
                public static final int NONE = -6, UNKNOWN = -1, OUTSIDE = -2, STATE = -3, FULL = -4, NO = -5;
                public static final long LOST = -1000000000000000000L;
                public SilentAfter();
                public int set(int which, int v);
                public int say(int sign);
                public int wipe();
                public int fault();
                public int judge();
                public int done();
                public int behind(int person);
                public int free(int person);
                public int answer(int person, int d);
                public int give(int person, int other, int s);
                public int saying(int person, int d, int behind);
                public int drop();
                public int soonest(int i);
                public int whom(int s, int what);
                public int quarrel(int person, int a, int other, int b, int t, int what);
                public int length(int person, int t, int what);
                public int seen(int person, int v);
                public int forget();
                public int filled(int i);
                public long burns(int person, int part);
                public int year(int seed, int n, int person);
                public int image(int n);
                public int restore(int n);
                public int told(int what);
            }
            """;
        says(face);
        Matcher told = Pattern.compile("public (int|long) (\\w+)\\(([^)]*)\\);").matcher(face);
        int count = 0;
        while (told.find()) {
            count++;
            int parameters = told.group(3).isEmpty() ? 0 : told.group(3).split(",").length;
            DOC.holds(told.group(), isThere(told.group(1), told.group(2), parameters));
        }
        due("calls", count, 24);
        long[] constants = {NONE, UNKNOWN, OUTSIDE, STATE, FULL, NO, LOST};
        DOC.holds("constants", Arrays.equals(constants, new long[] {-6, -1, -2, -3, -4, -5, -1000000000000000000L}));
    }

    private static boolean isThere(String type, String name, int parameters) {
        Class<?>[] types = new Class<?>[parameters];
        Arrays.fill(types, int.class);
        try {
            Method method = SilentAfter.class.getMethod(name, types);
            return method.getReturnType().getName().equals(type);
        } catch (NoSuchMethodException e) {
            return false;
        }
    }

    private static void terms() {
        DOC.passes("## Terms");
        says("Calls that are refused answer, the first of these that fits: UNKNOWN -1 (there is no such PERSON, SAYING),"
                + " OUTSIDE -2 (another number is not as told), NO -5 (as told), STATE -3 (as told), FULL -4.");
        due("PERSON ahead of d", behind("A5").answer(6, 0), -1);
        due("d ahead of STATE", behind("A5").answer(0, 0), -2);
        due("STATE", behind("A5").answer(0, 1), -3);
        due("SAYING ahead of d and of FULL", Edges.full("").saying(0, 0, 7), -1);
        due("d ahead of FULL", Edges.full("").saying(0, 0, 6), -2);
        due("FULL", Edges.full("").saying(0, 1, 6), -4);
        due("PERSON ahead of NO", pad("?1A").behind(6), -1);
        due("NO ahead of STATE", pad("?1A").behind(0), -5);
        due("STATE behind it", pad("?1").behind(0), -3);
        due("v ahead of FULL", Edges.full("").seen(0, 1000), -2);
        due("a sign ahead of FULL", Edges.full("").say(32), -2);
        due("n ahead of STATE", new SilentAfter().restore(2), -2);
        says("They change nothing.");
        refused("set", "B5", x -> x.set(0, 100), OUTSIDE);
        refused("say", "B5", x -> x.say(127), OUTSIDE);
        refused("judge, NO", "B5A", SilentAfter::judge, NO);
        refused("judge, STATE", "B5?1", SilentAfter::judge, STATE);
        refused("done, NO", "B5A", SilentAfter::done, NO);
        refused("done, NO by a saying", "B5A!9A1", SilentAfter::done, NO);
        refused("done, STATE", "B5?1", SilentAfter::done, STATE);
        refused("behind, UNKNOWN", "B5", x -> x.behind(6), UNKNOWN);
        refused("behind, NO", "B5A!9A1", x -> x.behind(1), NO);
        refused("behind, STATE", "B5?1", x -> x.behind(1), STATE);
        refused("free", "B5", x -> x.free(-1), UNKNOWN);
        refused("answer, UNKNOWN", "B5", x -> x.answer(6, 5), UNKNOWN);
        refused("answer, OUTSIDE", "B5", x -> x.answer(1, 100), OUTSIDE);
        refused("answer, STATE", "B5", x -> x.answer(0, 5), STATE);
        refused("give, UNKNOWN", "B5", x -> x.give(5, 5, 1), UNKNOWN);
        refused("give, OUTSIDE", "B5", x -> x.give(5, 0, 0), OUTSIDE);
        refused("give, STATE", "B5", x -> x.give(5, 0, 99), STATE);
        refused("saying, UNKNOWN", "B5", x -> x.saying(0, 5, 7), UNKNOWN);
        refused("saying, OUTSIDE", "B5", x -> x.saying(0, 100, 0), OUTSIDE);
        refused("whom", "B5", x -> x.whom(100, 0), OUTSIDE);
        refused("quarrel, UNKNOWN", "B5", x -> x.quarrel(1, 5, 1, 5, 50, 0), UNKNOWN);
        refused("quarrel, OUTSIDE", "B5", x -> x.quarrel(1, 5, 2, 5, 1000, 0), OUTSIDE);
        refused("length, UNKNOWN", "B5", x -> x.length(6, 50, 0), UNKNOWN);
        refused("length, OUTSIDE", "B5", x -> x.length(1, 50, 2), OUTSIDE);
        refused("seen, UNKNOWN", "B5", x -> x.seen(6, 0), UNKNOWN);
        refused("seen, OUTSIDE", "B5", x -> x.seen(0, -100), OUTSIDE);
        refused("filled", "B5?", x -> x.filled(0), NO);
        refused("burns, UNKNOWN", "B5", x -> x.burns(6, 0), LOST - 1);
        refused("burns, OUTSIDE", "B5", x -> x.burns(0, 2), LOST - 2);
        refused("burns, NO", "B5A!9A1", x -> x.burns(0, 0), LOST - 5);
        refused("burns, STATE", "B5?1", x -> x.burns(0, 0), LOST - 3);
        refused("burns, FULL", ",", x -> x.burns(0, 0), LOST - 4);
        refused("year, UNKNOWN", "B5", x -> x.year(1, 9, 6), UNKNOWN);
        refused("year, OUTSIDE", "B5", x -> x.year(1, 100, 0), OUTSIDE);
        refused("image", "B5", x -> x.image(2), OUTSIDE);
        refused("restore", "B5", x -> x.restore(2), OUTSIDE);
        refused("told", "B5", x -> x.told(9), OUTSIDE);
        EDGES.changesNothing("say, FULL", () -> Edges.full("B5"), x -> x.say('A'));
        EDGES.changesNothing("saying, FULL", () -> Edges.full("B5"), x -> x.saying(0, 5, 0));
        EDGES.changesNothing("seen, FULL", () -> Edges.full("B5"), x -> x.seen(0, 0));
        EDGES.changesNothing("restore, STATE", SilentAfter::new, x -> x.restore(0));
        says("Fractions are told in lowest terms by part: 0 the upper, 1 the lower number; refused with LOST and the refusal"
                + " (added: LOST - 1 for UNKNOWN).");
        due("6 of 9, upper", pad("A3,.6").burns(0, 0), 2);
        due("6 of 9, lower", pad("A3,.6").burns(0, 1), 3);
        due("0 of 9, upper", pad("A9").burns(0, 0), 0);
        due("0 of 9, lower", pad("A9").burns(0, 1), 1);
        due("9 of 9, upper", pad("A9").burns(1, 0), 1);
        due("9 of 9, lower", pad("A9").burns(1, 1), 1);
        due("UNKNOWN", pad("A9").burns(6, 0), -1000000000000000001L);
        due("OUTSIDE", pad("A9").burns(0, 2), -1000000000000000002L);
        due("STATE", pad("?9").burns(0, 0), -1000000000000000003L);
        due("FULL", pad(",").burns(0, 0), -1000000000000000004L);
        due("NO", pad("A").burns(0, 0), -1000000000000000005L);
    }

    private static void people() {
        says("1 PEOPLE 0 to 5 (A to F) have a GLASS each: seconds that they owe in silence (above 0), or have saved"
                + " (below 0); 0 at first.");
        for (int person = 0; person <= 5; person++) {
            String name = String.valueOf((char) ('A' + person));
            due(name + " at first", new SilentAfter().told(10 + person), 1000);
            due(name + " owes 7", behind(name + "7").told(10 + person), 1007);
            due(name + " has saved 7", behind(".7").told(10 + person), 993);
            due("the next one has saved 7", behind(name + "7").told(10 + (person + 1) % 6), 993);
        }
        due("nobody behind F", new SilentAfter().free(6), UNKNOWN);
        says("TIME goes by seconds (0 at first).");
        due("at first", new SilentAfter().told(1), 0);
        due("a saying, silence, fire", behind("A3.4B!5").told(1), 12);
        says("BOUND (0 to 99; 9 at first): no GLASS goes below 0 less BOUND by silence.");
        due("at first", new SilentAfter().told(2), 9);
        for (int v = 0; v <= 99; v++) {
            SilentAfter x = new SilentAfter();
            x.set(0, v);
            done(x, ".99");
            due("BOUND " + v, x.told(10), 1000 - v);
        }
        glasses(behind(".9"), -9, -9, -9, -9, -9, -9);
        glasses(behind(".10"), -9, -9, -9, -9, -9, -9);
        due("-1", new SilentAfter().set(0, -1), OUTSIDE);
        due("100", new SilentAfter().set(0, 100), OUTSIDE);
        says("FIRE (1 to 4; 2 at first).");
        due("at first", new SilentAfter().told(3), 2);
        for (int v = 0; v <= 5; v++) {
            due("FIRE " + v, new SilentAfter().set(1, v), v == 0 || v == 5 ? OUTSIDE : 2);
        }
    }

    private static void textsAndFaults() {
        says("A SAYING of d seconds by somebody takes d seconds; he may begin it only if his GLASS is 0 or less; at its end"
                + " his GLASS is d more than at its beginning.");
        due("it takes 7", pad("A7").done(), 7);
        due("a glass of 1", on(behind("A7.6"), "A7").done(), NO);
        due("a glass of 0", on(behind("A7.7"), "A7").done(), 7);
        due("a glass of -1", on(behind("A7.8"), "A7").done(), 7);
        glasses(behind("A7"), 7);
        glasses(behind(".3A7"), 4);
        glasses(behind(".9A7"), -2);
        says("FIRE of d seconds, likewise, but he may always, and his GLASS is FIRE times d more.");
        due("it takes 7", pad("A!7").done(), 7);
        for (int fire = 1; fire <= 4; fire++) {
            SilentAfter x = behind("A5B!1");
            x.set(1, fire);
            due("he may with a glass of 4", done(x, "A!7"), 7);
            glasses(x, 4 + 7 * fire);
        }
        says("Meanwhile, and in silence, each second takes one from every other GLASS that is above 0 less BOUND (it may"
                + " stand below, if BOUND was told since: then nothing is taken).");
        glasses(behind("A7B3"), 4, -4, -9, -9, -9, -9);
        glasses(behind("A!7B!3"), 11, -1, -9, -9, -9, -9);
        glasses(behind("A7.3"), 4, -9, -9, -9, -9, -9);
        glasses(behind("A3.2"), 1, -5, -5, -5, -5, -5);
        SilentAfter low = bound(20, "A20");
        low.set(0, 5);
        done(low, ".3");
        glasses(low, 17, -20, -20, -20, -20, -20);
        done(low, "B4.30");
        glasses(low, -5, -16, -20, -20, -20, -20);
        says("A TEXT on a PAD (60 SIGNS at most, codes 33 to 126) of PARTS: a letter A to F or ? (not told; 3 at most),"
                + " perhaps ! (FIRE), one or two digits (1 to 99, the first one not 0); . and one or two such digits"
                + " (silence); , (a night: each GLASS above 0 becomes 0; no TIME goes by).");
        due("60 signs", pad(",".repeat(60)).told(0), 60);
        due("a 61st", pad(",".repeat(60)).say(','), FULL);
        for (int code = 31; code <= 128; code++) {
            due("code " + code, new SilentAfter().say(code), code < 33 || code > 126 ? OUTSIDE : 1);
            boolean person = code >= 'A' && code <= 'F';
            fault((char) code + "5", person || code == '?' || code == '.' ? NONE : code == ',' ? 1 : 0);
        }
        for (String part : new String[] {"A1", "F99", "A!1", "F!99", "?1", "?!99", ".1", ".99", ",", "A10", "B90", "C11"}) {
            fault(part, NONE);
            fault(part + part, NONE);
        }
        fault("?1?1?1", NONE);
        fault("?1?1?1?1", 6);
        fault("A01", 1);
        fault("A!01", 2);
        fault(".01", 1);
        fault("A100", 3);
        fault(".100", 3);
        fault(".!1", 1);
        fault("A1!", 2);
        fault("A!!1", 2);
        fault(",1", 1);
        for (char sign : new char[] {'/', ':'}) {
            fault("A" + sign, 1);
            fault("A1" + sign, 2);
        }
        glasses(behind("A!20B!9C!6,"), 0, 0, 0, -9, -9, -9);
        due("no TIME", behind("A7,,").told(1), 7);
        says("THE FAULT: the place (from 0 on) of the first sign that can not stand there; the number of signs, if more must"
                + " come.");
        fault("G5", 0);
        fault("A5G5H5", 2);
        fault("A5B5x", 4);
        fault("A", 1);
        fault("A!", 2);
        fault("A5.", 3);
        fault("A5?!", 4);
    }

    private static void whoIsFree() {
        says("2 JUDGED: of a TEXT without ? the first PART (from 0 on) whose SAYING can not begin.");
        due("none", pad("A5B5A5").judge(), NONE);
        due("the third", pad("A5B4A5B1").judge(), 2);
        due("nights and silence are PARTS, too", pad(",.1A5,A5A5").judge(), 5);
        due("fire can", pad("A5A!5A!5").judge(), NONE);
        SilentAfter asked = pad("A5");
        due("A would say 5", asked.behind(0), 1005);
        due("A would not have said it", asked.judge(), NONE);
        says("DONE.");
        SilentAfter x = pad("A5B3");
        due("done", x.done(), 8);
        glasses(x, 2, -2, -8, -8, -8, -8);
        due("TIME", x.told(1), 8);
        says("BEHIND: GLASSES, TIME as they would be behind the TEXT.");
        on(x, "C!9,.1");
        int[] want = {-8, -9, -1, -9, -9, -9};
        for (int person = 0; person < 6; person++) {
            due("behind(" + person + ")", x.behind(person), 1000 + want[person]);
        }
        due("behind(-1)", x.behind(-1), 10);
        glasses(x, 2, -2, -8, -8, -8, -8);
        due("TIME stays", x.told(1), 8);
        due("and comes", x.done(), 10);
        glasses(x, want);
        due("TIME comes", x.told(1), 18);
        says("WAIT of a PERSON: seconds till he is free (0: he is).");
        due("a glass of 7", behind("A7").free(0), 7);
        due("a glass of 1", behind("A7.6").free(0), 1);
        due("a glass of 0", behind("A7.7").free(0), 0);
        due("a glass of -9", behind("A7").free(1), 0);
        says("ANSWER: who would be free when a SAYING of d seconds, by a PERSON who begins it now, were over, as bits (he"
                + " himself, too, if he then were).");
        due("A owes 5 then", new SilentAfter().answer(0, 5), 0b111110);
        due("F owes 5 then", new SilentAfter().answer(5, 5), 0b011111);
        due("B owes 1 still", behind("B5").answer(0, 4), 0b111101);
        due("B owes nothing more", behind("B5").answer(0, 5), 0b111111);
        due("A has saved 5", behind(".5").answer(0, 5), 0b111111);
        due("A has saved 4", behind(".4").answer(0, 5), 0b111110);
        SilentAfter twice = new SilentAfter();
        due("A says 5", twice.answer(0, 5), 0b111110);
        due("B says 5, not behind that", twice.answer(1, 5), 0b111101);
        says("GIVEN: a PERSON's saved seconds become another one's: s of them (he has as many saved, at least); that one's"
                + " GLASS is s less, though not below 0 less BOUND (what is more is lost; all of it, if it stands below that"
                + " already).");
        SilentAfter saved = behind("A6");
        due("6 of 6 to who owes 6", saved.give(1, 0, 6), 0);
        glasses(saved, 0, 0, -6, -6, -6, -6);
        due("7 of 6", saved.give(2, 0, 7), STATE);
        due("3 of 6 are lost at -9", saved.give(2, 3, 6), 3);
        glasses(saved, 0, 0, 0, -9, -6, -6);
        saved.set(0, 5);
        due("all are lost below", saved.give(4, 3, 2), 2);
        glasses(saved, 0, 0, 0, -9, -4, -6);
    }

    private static void talks() {
        says("3 A TALK: SAYINGS, 7 at most, each by a PERSON, of d seconds (1 to 99), perhaps behind a told one ahead of it"
                + " in number (-1: none).");
        SilentAfter x = new SilentAfter();
        for (int i = 0; i < 7; i++) {
            due("behind itself", x.saying(i % 6, 1 + i, i), UNKNOWN);
            due("saying " + i, x.saying(i % 6, i == 6 ? 99 : 1 + i, i - 1), i + 1);
        }
        due("an eighth", x.saying(0, 1, -1), FULL);
        due("seconds", x.soonest(-1), 1 + 2 + 3 + 4 + 5 + 6 + 99);
        due("of nobody", new SilentAfter().saying(6, 1, -1), UNKNOWN);
        due("0 seconds", new SilentAfter().saying(0, 0, -1), OUTSIDE);
        due("100 seconds", new SilentAfter().saying(0, 100, -1), OUTSIDE);
        says("They are said in some order that keeps this, one after another, each as soon as who says it is free (in"
                + " silence meanwhile): SOONEST: the order by which all is over in the fewest seconds (from now); the first"
                + " by numbers.");
        // B, then A says 1 with the second that he saved, then 3.
        order(talk(new SilentAfter(), 0, 3, -1, 1, 1, -1, 0, 1, -1), 5, 0, 1, 2, 0);
        // A's 1 behind his 3: he waits 2, whoever was first.
        order(talk(new SilentAfter(), 0, 3, -1, 1, 1, -1, 0, 1, 0), 7, 2, 0, 1, 2);
        order(talk(new SilentAfter(), 5, 2, -1, 4, 2, -1, 3, 2, -1), 6, 0, 0, 1, 2);
        order(talk(behind("A4"), 0, 2, -1), 6, 4, 0);
        order(talk(behind("A4"), 0, 2, -1, 1, 3, -1), 6, 1, 1, 0);
        due("from now, TIME stays", behind("A4").told(1), 4);
        says("SILENCE: how many seconds of these nobody speaks.");
        due("5, 5 of silence, 5", talk(new SilentAfter(), 0, 5, -1, 0, 5, -1).soonest(-2), 5);
        due("B's 5 between them", talk(new SilentAfter(), 0, 5, -1, 0, 5, -1, 1, 5, -1).soonest(-2), 0);
        due("B's 3 between them", talk(new SilentAfter(), 0, 5, -1, 0, 5, -1, 1, 3, -1).soonest(-2), 2);
    }

    private static void whomAndQuarrelAndLength() {
        says("WHOM to give s seconds (1 to 99; his GLASS is s less, not below 0 less BOUND, as of GIVEN) so that the TALK is"
                + " over soonest: the first; in how many seconds.");
        for (int person = 0; person <= 5; person++) {
            SilentAfter x = talk(new SilentAfter(), person, 5, -1, person, 5, -1);
            due("whom", x.whom(3, 0), person);
            due("3 of 5", x.whom(3, 1), 12);
            due("99, 9 are taken", x.whom(99, 1), 10);
            x.set(0, 2);
            due("99, 2 are taken", x.whom(99, 1), 13);
            due("1 is taken", x.whom(1, 1), 14);
        }
        due("it helps nobody: the first", talk(new SilentAfter(), 3, 5, -1).whom(9, 0), 0);
        due("B and D alike: the first", talk(behind("B2D!1"), 1, 1, -1, 3, 1, 0).whom(1, 0), 1);
        due("0", new SilentAfter().whom(0, 0), OUTSIDE);
        due("100", new SilentAfter().whom(100, 0), OUTSIDE);
        says("QUARREL: two speak by turns, the first one begins, a seconds each time, the other one b (1 to 99 each), each as"
                + " soon as he is free and the other one has done, from now: how many SAYINGS are over within t seconds (0 to"
                + " 999); how many seconds of these t nobody speaks (a SAYING that is not over by then counts as speech up to"
                + " it).");
        // A from 0, B from 5, nobody from 7, A from 10: rounds of 10, the hundredth without its last second.
        int[][] rows = {{0, 0, 0}, {4, 0, 0}, {5, 1, 0}, {6, 1, 0}, {7, 2, 0}, {8, 2, 1}, {10, 2, 3}, {14, 2, 3}, {15, 3, 3},
            {17, 4, 3}, {19, 4, 5}, {999, 200, 299}};
        for (int[] row : rows) {
            due("within " + row[0] + ", over", new SilentAfter().quarrel(0, 5, 1, 2, row[0], 0), row[1]);
            due("within " + row[0] + ", silence", new SilentAfter().quarrel(0, 5, 1, 2, row[0], 1), row[2]);
        }
        due("from now", behind("A5").quarrel(0, 5, 1, 2, 7, 1), 5);
        for (int d : new int[] {0, 1, 99, 100}) {
            due("a " + d, new SilentAfter().quarrel(0, d, 1, 2, 99, 0) < 0 ? OUTSIDE : 1, d % 100 == 0 ? OUTSIDE : 1);
            due("b " + d, new SilentAfter().quarrel(0, 5, 1, d, 99, 0) < 0 ? OUTSIDE : 1, d % 100 == 0 ? OUTSIDE : 1);
        }
        due("t 1000", new SilentAfter().quarrel(0, 5, 1, 2, 1000, 1), OUTSIDE);
        says("LENGTH: a PERSON alone speaks d seconds each time as soon as he is free: d (1 to 99) by which he has spoken most"
                + " seconds in SAYINGS that are over within t seconds (0 to 999), the least; how many.");
        due("within 10, d", new SilentAfter().length(0, 10, 0), 10);
        due("within 10, seconds", new SilentAfter().length(0, 10, 1), 10);
        due("twice 9 with 9 saved, d", behind(".9").length(0, 18, 0), 9);
        due("twice 9 with 9 saved, seconds", behind(".9").length(0, 18, 1), 18);
        due("the least of 1, 3, 9, d", behind(".9").length(0, 9, 0), 1);
        due("99 is the most, d", new SilentAfter().length(0, 100, 0), 99);
        due("99 is the most, seconds", new SilentAfter().length(0, 100, 1), 99);
        due("within 999, d", new SilentAfter().length(0, 999, 0), 90);
        due("within 999, seconds", new SilentAfter().length(0, 999, 1), 540);
        due("within 1000", new SilentAfter().length(0, 1000, 1), OUTSIDE);
    }

    private static void notTold() {
        says("4 FILLED: ways to write a PERSON for each ? by which all PARTS can be and all SIGHTS hold (6 at most: behind the"
                + " TEXT a GLASS shows v, -99 to 999): how many; the first by letters.");
        due("all but A", pad("?5A5").filled(-1), 5);
        due("B", pad("?5A5").filled(0), 1);
        due("each twice but not the same", pad("?5?5").filled(-1), 30);
        SilentAfter x = pad("?5?!1");
        for (int i = 1; i <= 6; i++) {
            due("sight " + i, x.seen(2, 4), i);
        }
        // C says the 5, and another one calls for 1 behind it; or C calls first.. for 1, with 5 saved: -3.
        due("ways", x.filled(-1), 5);
        due("the first ?", x.filled(0), 2);
        due("the second ?", x.filled(1), 0);
        due("a seventh", x.seen(2, 4), FULL);
        due("-99", new SilentAfter().seen(0, -99), 1);
        due("-100", new SilentAfter().seen(0, -100), OUTSIDE);
        due("999", new SilentAfter().seen(0, 999), 1);
        due("1000", new SilentAfter().seen(0, 1000), OUTSIDE);
    }

    private static void yearsAndBurns() {
        says("BURNS: of all seconds of the TEXT (without ?; it takes T of them, 1 at least) each is as likely: the chance that a"
                + " PERSON neither speaks in it nor has a GLASS above 0 at its beginning.");
        String text = "A3B4A!1.6";
        // A speaks in 3, owes in 3, could in 1, calls in 1 (2 owed less 1 saved: 1), owes in 1, could in 5.
        due("A, upper", pad(text).burns(0, 0), 3);
        due("A, lower", pad(text).burns(0, 1), 7);
        // B could in 3, speaks in 4, owes 1 (3 had been saved) in 1, could in 6.
        due("B, upper", pad(text).burns(1, 0), 9);
        due("B, lower", pad(text).burns(1, 1), 14);
        due("C, upper", pad(text).burns(2, 0), 1);
        due("T 0", pad(",").burns(2, 0), LOST - 4);
        due("T 1", pad(".1").burns(2, 0), 1);
        says("A YEAR by a seed (0 to 9999) of n turns (1 to 99), from GLASSES as they are: x becomes (75 x and 74) left over by"
                + " 65537; PERSON x left over by 6 would say 1 and what x by 6 (cut) leaves over by 9 seconds: does, if he is"
                + " free; else a second of silence goes by: how many SAYINGS of a PERSON.");
        for (int seed = 1; seed < 10000; seed += 357) {
            for (int n = 1; n <= 99; n += 7) {
                for (int person = 0; person <= 5; person++) {
                    due("year(" + seed + ", " + n + ", " + person + ")", behind("A9B!9").year(seed, n, person),
                            sayings(seed, n, person, new int[] {0, 9, -9, -9, -9, -9}));
                }
            }
        }
        due("10000", new SilentAfter().year(10000, 1, 0), OUTSIDE);
        // 29092: E says 7.
        due("9999", new SilentAfter().year(9999, 1, 4), 1);
        due("100", new SilentAfter().year(0, 100, 0), OUTSIDE);
        SilentAfter again = new SilentAfter();
        due("a year", again.year(9999, 1, 4), 1);
        due("the same year, not behind that", again.year(9999, 1, 4), 1);
    }

    /** What a year is, by the words of the document; the bound is 9. */
    private static int sayings(int seed, int n, int person, int[] glasses) {
        long x = seed;
        int count = 0;
        for (int turn = 0; turn < n; turn++) {
            x = (75 * x + 74) % 65537;
            int who = (int) (x % 6);
            boolean free = glasses[who] <= 0;
            int d = free ? (int) (1 + x / 6 % 9) : 1;
            for (int other = 0; other < 6; other++) {
                glasses[other] = free && other == who ? glasses[other] + d : Math.max(glasses[other] - d, -9);
            }
            count += free && who == person ? 1 : 0;
        }
        return count;
    }

    private static void interfaceHeads() throws IOException {
        String[][] calls = {{"set", "say", "wipe", "fault", "judge", "done"}, {"behind", "free", "answer", "give"},
            {"saying", "drop", "soonest", "whom", "quarrel", "length"},
            {"seen", "forget", "filled", "burns", "year", "image", "restore", "told"}};
        String[] heads = {"---- 1 glasses, texts", "---- 2 who is free", "---- 3 talks", "---- 4 what is not told, fires, years"};
        String source = Files.readString(Path.of("src/main/java/SilentAfter.java"));
        for (int k = 0; k < heads.length; k++) {
            says("Ahead of the calls `" + String.join("`, `", calls[k]) + "` the interface says: " + heads[k] + ".");
            int from = source.indexOf(heads[k]);
            int to = k + 1 < heads.length ? source.indexOf(heads[k + 1]) : source.length();
            DOC.holds("the head is there, and the next one behind it", from >= 0 && to > from);
            Matcher told = Pattern.compile("\n    public \\w+ (\\w+)\\(").matcher(source.substring(from, to));
            for (String call : calls[k]) {
                DOC.holds(call + " stands next there", told.find() && told.group(1).equals(call));
            }
            DOC.holds("no more calls", !told.find());
        }
    }

    private static void promises1To7() {
        DOC.passes("## Promise 1: A new object");
        says("`SilentAfter()`: All GLASSES are 0.");
        glasses(new SilentAfter(), 0, 0, 0, 0, 0, 0);
        DOC.passes("## Promise 2: set");
        says("`int set(int which, int v)`: BOUND (which = 0), FIRE (1): which it was. OUTSIDE.");
        SilentAfter x = new SilentAfter();
        due("BOUND", x.set(0, 12), 9);
        due("BOUND again", x.set(0, 13), 12);
        due("FIRE", x.set(1, 3), 2);
        due("FIRE again", x.set(1, 4), 3);
        due("BOUND now", x.told(2), 13);
        due("FIRE now", x.told(3), 4);
        due("which 2", x.set(2, 1), OUTSIDE);
        due("which -1", x.set(-1, 1), OUTSIDE);
        due("v 5 is no FIRE", x.set(1, 5), OUTSIDE);
        DOC.passes("## Promise 3: say");
        says("`int say(int sign)`: A sign more: how many. OUTSIDE; FULL.");
        due("the first", x.say('A'), 1);
        due("the second", x.say('5'), 2);
        due("it is there", x.judge(), NONE);
        due("OUTSIDE", x.say(' '), OUTSIDE);
        due("FULL", pad("A".repeat(60)).say('A'), FULL);
        DOC.passes("## Promise 4: wipe");
        says("`int wipe()`: Signs go: how many there were.");
        due("two", x.wipe(), 2);
        due("none", x.wipe(), 0);
        due("told", x.told(0), 0);
        DOC.passes("## Promise 5: fault");
        says("`int fault()`: THE FAULT; NONE.");
        fault("A5A0", 3);
        fault("A5A", 3);
        fault("A5A5", NONE);
        fault("", NONE);
        DOC.passes("## Promise 6: judge");
        says("`int judge()`: JUDGED; NONE. NO: there is a FAULT; STATE: there is some ?.");
        due("JUDGED", pad("A5A5").judge(), 1);
        due("NONE", pad("A5,A5").judge(), NONE);
        due("NO", pad("A5A5A").judge(), NO);
        due("STATE", pad("A5A5?5").judge(), STATE);
        DOC.passes("## Promise 7: done");
        says("`int done()`: The TEXT on the PAD is DONE (it is empty then; it stays when the call is refused): seconds. NO:"
                + " there is a FAULT, or (without ?) a SAYING that can not begin; STATE: there is some ?.");
        on(x, "A5.2");
        due("seconds", x.done(), 7);
        due("it is empty then", x.told(0), 0);
        due("NO, a fault", on(x, "B5B").done(), NO);
        due("it stays", x.told(0), 3);
        due("NO, a saying", on(x, "B9B5").done(), NO);
        due("it stays", x.told(0), 4);
        due("STATE", on(x, "B9B5?5").done(), STATE);
        due("it stays", x.told(0), 6);
        glasses(x, 3, -7, -7, -7, -7, -7);
    }

    private static void promises8To11() {
        DOC.passes("## Promise 8: behind");
        says("`int behind(int person)`: BEHIND: a GLASS, and 1000 (person 0 on), seconds of the TEXT (-1). UNKNOWN; NO, STATE,"
                + " likewise.");
        SilentAfter x = on(behind("A5"), "B3");
        due("A", x.behind(0), 1002);
        due("B", x.behind(1), 998);
        due("F", x.behind(5), 992);
        due("seconds", x.behind(-1), 3);
        due("-2", x.behind(-2), UNKNOWN);
        due("6", x.behind(6), UNKNOWN);
        due("NO, a fault", on(x, "B").behind(-1), NO);
        due("NO, a saying", on(x, "A1").behind(-1), NO);
        due("STATE", on(x, "A1?1").behind(-1), STATE);
        DOC.passes("## Promise 9: free");
        says("`int free(int person)`: WAIT. UNKNOWN.");
        due("A", x.free(0), 5);
        due("B", x.free(1), 0);
        due("6", x.free(6), UNKNOWN);
        due("-1", x.free(-1), UNKNOWN);
        DOC.passes("## Promise 10: answer");
        says("`int answer(int person, int d)`: ANSWER, as bits. UNKNOWN; OUTSIDE: d 1 to 99; STATE: he is not free now.");
        due("B says 1", x.answer(1, 1), 0b111110);
        due("B says 99", x.answer(1, 99), 0b111101);
        due("6", x.answer(6, 1), UNKNOWN);
        due("0", x.answer(1, 0), OUTSIDE);
        due("100", x.answer(1, 100), OUTSIDE);
        due("A is not free", x.answer(0, 1), STATE);
        DOC.passes("## Promise 11: give");
        says("`int give(int person, int other, int s)`: GIVEN: how many of them are lost. UNKNOWN, also to himself; OUTSIDE: s 1"
                + " to 99; STATE: he has not so many saved.");
        due("none is lost", x.give(1, 0, 5), 0);
        due("one is lost", x.give(2, 3, 5), 1);
        due("to himself", x.give(4, 4, 1), UNKNOWN);
        due("by nobody", x.give(6, 4, 1), UNKNOWN);
        due("to nobody", x.give(4, -1, 1), UNKNOWN);
        due("0", x.give(4, 5, 0), OUTSIDE);
        due("100", x.give(4, 5, 100), OUTSIDE);
        due("6 of 5", x.give(4, 5, 6), STATE);
        due("99 of 5", x.give(4, 5, 99), STATE);
        glasses(x, 0, 0, 0, -9, -5, -5);
        due("1 of 5", x.give(4, 5, 1), 0);
        glasses(x, 0, 0, 0, -9, -4, -6);
    }

    private static void promises12To17() {
        DOC.passes("## Promise 12: saying");
        says("`int saying(int person, int d, int behind)`: A SAYING more: how many. UNKNOWN: the PERSON, a SAYING that there is"
                + " not; OUTSIDE; FULL.");
        SilentAfter x = new SilentAfter();
        due("the first", x.saying(0, 5, -1), 1);
        due("the second", x.saying(0, 4, 0), 2);
        due("nobody", x.saying(6, 4, 0), UNKNOWN);
        due("behind a third", x.saying(0, 4, 2), UNKNOWN);
        due("behind -2", x.saying(0, 4, -2), UNKNOWN);
        due("100", x.saying(0, 100, 0), OUTSIDE);
        due("told", x.told(4), 2);
        due("FULL", talk(x, 1, 1, 1, 1, 1, 1, 1, 1, 1, 1, 1, 1, 1, 1, 1).saying(1, 1, 1), FULL);
        DOC.passes("## Promise 13: drop");
        says("`int drop()`: All SAYINGS go: how many there were.");
        due("seven", x.drop(), 7);
        due("none", x.drop(), 0);
        due("told", x.told(4), 0);
        due("none to be behind", x.saying(0, 1, 0), UNKNOWN);
        DOC.passes("## Promise 14: soonest");
        says("`int soonest(int i)`: SOONEST: seconds (i = -1), SILENCE (-2), the i-th SAYING; NONE.");
        order(talk(x, 0, 5, -1, 0, 4, -1), 13, 4, 1, 0);
        due("a third", x.soonest(2), NONE);
        due("-3", x.soonest(-3), NONE);
        order(new SilentAfter(), 0, 0, NONE);
        DOC.passes("## Promise 15: whom");
        says("`int whom(int s, int what)`: WHOM (what = 0), seconds then (1). OUTSIDE.");
        due("whom", talk(new SilentAfter(), 3, 5, -1, 3, 5, -1).whom(5, 0), 3);
        due("seconds then", talk(new SilentAfter(), 3, 5, -1, 3, 5, -1).whom(5, 1), 10);
        due("s 100", x.whom(100, 0), OUTSIDE);
        due("what 2", x.whom(5, 2), OUTSIDE);
        due("what -1", x.whom(5, -1), OUTSIDE);
        DOC.passes("## Promise 16: quarrel");
        says("`int quarrel(int person, int a, int other, int b, int t, int what)`: QUARREL: SAYINGS (what = 0), seconds in which"
                + " nobody speaks (1). UNKNOWN, also both are one; OUTSIDE.");
        due("SAYINGS", x.quarrel(4, 5, 2, 3, 15, 0), 3);
        due("seconds", x.quarrel(4, 5, 2, 3, 15, 1), 2);
        due("both are one", x.quarrel(4, 5, 4, 3, 15, 0), UNKNOWN);
        due("nobody", x.quarrel(6, 5, 4, 3, 15, 0), UNKNOWN);
        due("with nobody", x.quarrel(4, 5, -1, 3, 15, 0), UNKNOWN);
        due("what 2", x.quarrel(4, 5, 2, 3, 15, 2), OUTSIDE);
        due("what -1", x.quarrel(4, 5, 2, 3, 15, -1), OUTSIDE);
        due("t -1", x.quarrel(4, 5, 2, 3, -1, 0), OUTSIDE);
        DOC.passes("## Promise 17: length");
        says("`int length(int person, int t, int what)`: LENGTH: d (what = 0; NONE: no SAYING is over), seconds (1). UNKNOWN;"
                + " OUTSIDE.");
        due("d", x.length(4, 150, 0), 50);
        due("seconds", x.length(4, 150, 1), 100);
        due("no SAYING is over, d", x.length(4, 0, 0), NONE);
        due("no SAYING is over, seconds", x.length(4, 0, 1), 0);
        due("nobody", x.length(6, 150, 0), UNKNOWN);
        due("t -1", x.length(4, -1, 0), OUTSIDE);
        due("what 2", x.length(4, 150, 2), OUTSIDE);
        due("what -1", x.length(4, 150, -1), OUTSIDE);
    }

    private static void promises18To22() {
        DOC.passes("## Promise 18: seen");
        says("`int seen(int person, int v)`: A SIGHT more: how many. UNKNOWN; OUTSIDE; FULL.");
        SilentAfter x = new SilentAfter();
        due("the first", x.seen(0, -5), 1);
        due("nobody", x.seen(6, -5), UNKNOWN);
        due("1000", x.seen(0, 1000), OUTSIDE);
        for (int i = 2; i <= 7; i++) {
            due("sight " + i, x.seen(1, -5), i < 7 ? i : FULL);
        }
        DOC.passes("## Promise 19: forget");
        says("`int forget()`: SIGHTS go: how many there were.");
        due("no way", on(x, "?4").filled(-1), 0);
        due("six", x.forget(), 6);
        due("none", x.forget(), 0);
        due("all ways", x.filled(-1), 6);
        DOC.passes("## Promise 20: filled");
        says("`int filled(int i)`: FILLED: how many ways (i = -1), the PERSON of the i-th ? in the first; NONE. NO: there is a"
                + " FAULT.");
        on(x, "?!2A1?!2");
        due("all but A, and all", x.filled(-1), 30);
        due("the first ?", x.filled(0), 1);
        due("the second ?", x.filled(1), 0);
        due("a third", x.filled(2), NONE);
        due("-2", x.filled(-2), NONE);
        due("no way", on(x, "?1A2A2").filled(0), NONE);
        due("a fault", on(x, "?1A2A").filled(-1), NO);
        due("a fault", x.filled(0), NO);
        DOC.passes("## Promise 21: burns");
        says("`long burns(int person, int part)`: BURNS. UNKNOWN; OUTSIDE; NO, STATE, as of done(); FULL: the TEXT takes no"
                + " TIME.");
        due("upper", on(x, "A2.8").burns(0, 0), 3);
        due("lower", x.burns(0, 1), 5);
        due("UNKNOWN", x.burns(-1, 1), LOST + UNKNOWN);
        due("OUTSIDE", x.burns(0, -1), LOST + OUTSIDE);
        due("NO, a fault", on(x, "A").burns(0, 0), LOST + NO);
        due("NO, a saying", on(x, "A2A2").burns(0, 0), LOST + NO);
        due("STATE", on(x, "A2A2?2").burns(0, 0), LOST + STATE);
        due("FULL", on(x, "").burns(0, 0), LOST + FULL);
        DOC.passes("## Promise 22: year");
        says("`int year(int seed, int n, int person)`: A YEAR. UNKNOWN; OUTSIDE.");
        // 74: C says 4.
        due("C", x.year(0, 1, 2), 1);
        due("D", x.year(0, 1, 3), 0);
        due("nobody", x.year(0, 1, 6), UNKNOWN);
        due("seed -1", x.year(-1, 1, 2), OUTSIDE);
        due("n 0", x.year(0, 0, 2), OUTSIDE);
        due("TIME stays", x.told(1), 0);
    }

    private static void promises23To25() {
        DOC.passes("## Promise 23: image");
        says("`int image(int n)`: All but the PAD is kept in an IMAGE (0, 1): 1. OUTSIDE.");
        SilentAfter x = talk(behind("A5"), 0, 5, -1, 1, 4, 0);
        x.set(0, 20);
        x.set(1, 3);
        x.seen(0, 7);
        on(x, "B1");
        due("image(0)", x.image(0), 1);
        due("image(2)", x.image(2), OUTSIDE);
        due("image(-1)", x.image(-1), OUTSIDE);
        DOC.passes("## Promise 24: restore");
        says("`int restore(int n)`: It is as it was when it was kept: 1. OUTSIDE; STATE: it was not.");
        due("the other one", x.restore(1), STATE);
        x.done();
        x.set(0, 30);
        x.set(1, 1);
        x.drop();
        talk(x, 2, 9, -1, 2, 8, -1, 2, 1, 0);
        x.forget();
        x.seen(1, -4);
        x.seen(2, -6);
        due("image(1)", x.image(1), 1);
        on(x, "C9D");
        due("restore(0)", x.restore(0), 1);
        told(x, 3, 5, 20, 3, 2, 1);
        glasses(x, 5, -5, -5, -5, -5, -5);
        order(x, 14, 5, 0, 1);
        due("A shows 8", on(x, "A!1").filled(-1), 0);
        due("A shows 7", on(x, "A!1.1").filled(-1), 1);
        due("restore(1)", x.restore(1), 1);
        told(x, 5, 6, 30, 1, 3, 2);
        glasses(x, 4, -4, -6, -6, -6, -6);
        order(x, 22, 4, 0, 2, 1);
        due("B shows -5", on(x, ".1").filled(-1), 0);
        due("B shows -4, C -6", on(x, "").filled(-1), 1);
        due("restore(0) again", x.restore(0), 1);
        told(x, 0, 5, 20, 3, 2, 1);
        order(x, 14, 5, 0, 1);
        due("restore(2)", x.restore(2), OUTSIDE);
        due("restore(-1)", x.restore(-1), OUTSIDE);
        DOC.passes("## Promise 25: told");
        says("`int told(int what)`: 0 signs, 1 TIME, 2 BOUND, 3 FIRE, 4 SAYINGS, 5 SIGHTS, 10 to 15 GLASSES and 1000. OUTSIDE.");
        SilentAfter y = talk(behind("A5B3"), 0, 5, -1, 0, 5, -1, 0, 5, -1, 0, 5, -1);
        y.set(0, 77);
        y.set(1, 4);
        for (int i = 0; i < 5; i++) {
            y.seen(i, i);
        }
        on(y, "A1A1A1");
        int[] want = {6, 8, 77, 4, 4, 5, OUTSIDE, OUTSIDE, OUTSIDE, OUTSIDE, 1002, 998, 992, 992, 992, 992, OUTSIDE};
        for (int what = 0; what < want.length; what++) {
            due("told(" + what + ")", y.told(what), want[what]);
        }
        due("told(-1)", y.told(-1), OUTSIDE);
    }

    private static void notPromised() {
        DOC.passes("## Not promised");
        DOC.passes("How the state is held inside the object is free, as are the speed of each call, the text of toString and the"
                + " behaviour of equals and hashCode. Use of one object from several threads at once is not promised to be"
                + " safe.");
        says("Nothing is promised beyond the answers and state changes described above, and nothing about an object after its"
                + " 512th call.");
        // State changes are told of these calls alone; all others only ask.
        for (String text : new String[] {"B5,C!3", "B5?1", "B5B"}) {
            ToLongFunction<SilentAfter> all = x -> Checks.everything(x).length() + x.free(1) + x.answer(1, 5)
                    + x.quarrel(1, 5, 2, 5, 99, 0) + x.length(1, 99, 0) + x.year(5, 9, 1);
            DOC.holds("asked", all.applyAsLong(Edges.busy(text)) > 0);
            EDGES.changesNothing("what only asks", () -> Edges.busy(text), all);
            EDGES.changesNothing("what only asks, full", () -> Edges.full(text), all);
        }
    }
}
