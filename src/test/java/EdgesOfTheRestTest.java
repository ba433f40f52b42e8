import java.util.function.Consumer;
import java.util.function.ToLongFunction;

/** Boundaries in part 4 and in promises 18 to 25. */
public final class EdgesOfTheRestTest {
    private static final Edges EDGES = new Edges("boundaries, promises 18 to 25");
    private static final int NONE = SilentAfter.NONE, UNKNOWN = SilentAfter.UNKNOWN, OUTSIDE = SilentAfter.OUTSIDE;
    private static final int STATE = SilentAfter.STATE, FULL = SilentAfter.FULL, NO = SilentAfter.NO;
    private static final long LOST = SilentAfter.LOST;

    private static void due(String what, long got, long want) {
        EDGES.due(what, got, want);
    }

    public static void main(String[] args) {
        sixSights();
        seenPersons();
        seenValues();
        seenOrder();
        forgetOfNoneAndSix();
        filledNumbers();
        filledWays();
        filledFirstByLetters();
        filledSights();
        filledRefusals();
        burnsAt0();
        burnsInLowestTerms();
        burnsPersonsAndParts();
        burnsRefusals();
        yearNumbers();
        yearRefusals();
        yearWrapsAround();
        yearSecondsAndSilence();
        imageNumbers();
        restoreNotKept();
        restoreAllButThePad();
        restoreEmptyAndFull();
        toldNumbers();
        askingChangesNothing();
        EDGES.end();
    }

    // SIGHTS (6 at most). Promise 18: a SIGHT more: how many. FULL.
    private static void sixSights() {
        SilentAfter x = new SilentAfter();
        for (int i = 1; i <= 6; i++) {
            due("sight " + i, x.seen(0, 0), i);
            due("told", x.told(5), i);
        }
        due("the seventh", x.seen(0, 0), FULL);
        due("the seventh of another", x.seen(5, 999), FULL);
        due("told", x.told(5), 6);
        due("the six hold", x.filled(-1), 1);
        x.forget();
        due("room again", x.seen(0, 0), 1);
        EDGES.refused("the seventh", () -> Edges.full("A!1"), y -> y.seen(0, 0), FULL);
        EDGES.refused("the seventh, -99", () -> Edges.full("A!1"), y -> y.seen(5, -99), FULL);
    }

    // Promise 18: UNKNOWN.
    private static void seenPersons() {
        for (int person = 0; person <= 5; person++) {
            SilentAfter x = Checks.behind((char) ('A' + person) + "4");
            due("seen(" + person + ", 4)", x.seen(person, 4), 1);
            due("just this glass shows 4", x.filled(-1), 1);
            due("seen of the next one", x.seen((person + 1) % 6, -4), 2);
            due("that shows -4", x.filled(-1), 1);
        }
        for (int person : Edges.NO_PERSONS) {
            EDGES.refusedAnywhere("seen(" + person + ", 0)", x -> x.seen(person, 0), UNKNOWN);
        }
    }

    // A GLASS shows v, -99 to 999. OUTSIDE.
    private static void seenValues() {
        due("v -99", new SilentAfter().seen(0, -99), 1);
        due("v -98", new SilentAfter().seen(0, -98), 1);
        due("v 998", new SilentAfter().seen(0, 998), 1);
        due("v 999", new SilentAfter().seen(0, 999), 1);
        for (int v : new int[] {-100, 1000, Integer.MIN_VALUE, Integer.MAX_VALUE}) {
            EDGES.refusedAnywhere("seen(0, " + v + ")", x -> x.seen(0, v), OUTSIDE);
        }
    }

    // UNKNOWN, OUTSIDE, FULL: the first of these that fits.
    private static void seenOrder() {
        for (int v : new int[] {-100, 1000}) {
            EDGES.refused("UNKNOWN ahead of OUTSIDE", SilentAfter::new, x -> x.seen(6, v), UNKNOWN);
            EDGES.refused("OUTSIDE ahead of FULL", () -> Edges.full(""), x -> x.seen(0, v), OUTSIDE);
            EDGES.refused("all at once", () -> Edges.full(""), x -> x.seen(-1, v), UNKNOWN);
        }
        EDGES.refused("UNKNOWN ahead of FULL", () -> Edges.full(""), x -> x.seen(6, 0), UNKNOWN);
        EDGES.refused("UNKNOWN ahead of FULL", () -> Edges.full(""), x -> x.seen(-1, 0), UNKNOWN);
    }

    // Promise 19: SIGHTS go: how many there were.
    private static void forgetOfNoneAndSix() {
        SilentAfter x = new SilentAfter();
        due("forget of none", x.forget(), 0);
        x.seen(0, 1);
        due("one that does not hold", x.filled(-1), 0);
        due("forget of one", x.forget(), 1);
        due("none that does not hold", x.filled(-1), 1);
        due("forget of none again", x.forget(), 0);
        for (int i = 0; i < 7; i++) {
            x.seen(i % 6, 1);
        }
        due("forget of six", x.forget(), 6);
        due("told", x.told(5), 0);
        due("none that does not hold", x.filled(-1), 1);
    }

    // Promise 20: how many ways (i = -1), the PERSON of the i-th ? in the first; NONE.
    private static void filledNumbers() {
        String[] texts = {"", "A1", "?1", "?1?!1", "?!1?!1?!1"};
        int[] asked = {0, 0, 1, 2, 3};
        for (int k = 0; k < texts.length; k++) {
            SilentAfter x = Checks.write(new SilentAfter(), texts[k]);
            due("ways of " + texts[k], x.filled(-1), new int[] {1, 1, 6, 36, 216}[k]);
            for (int i = 0; i < 5; i++) {
                due("filled(" + i + ") of " + texts[k], x.filled(i), i < asked[k] ? 0 : NONE);
            }
            for (int i : new int[] {-2, -3, Integer.MIN_VALUE, Integer.MAX_VALUE}) {
                due("filled(" + i + ") of " + texts[k], x.filled(i), NONE);
            }
        }
        SilentAfter none = Checks.write(Checks.behind("A5"), "?1A1");
        due("no way", none.filled(-1), 0);
        for (int i = -3; i < 4; i++) {
            due("no way, filled(" + i + ")", none.filled(i), i == -1 ? 0 : NONE);
        }
        EDGES.refused("filled(-2)", () -> Edges.busy("?1"), x -> x.filled(-2), NONE);
        EDGES.refused("filled(1) of one ?", () -> Edges.busy("?1"), x -> x.filled(1), NONE);
        EDGES.refused("filled(3) of three ?", () -> Edges.busy("?!1?!1?!1"), x -> x.filled(3), NONE);
    }

    private static void filled(String what, SilentAfter x, String text, int ways, int... first) {
        Checks.write(x, text);
        due(what + ", " + text + ", ways", x.filled(-1), ways);
        for (int i = 0; i < first.length; i++) {
            due(what + ", " + text + ", ? " + i, x.filled(i), first[i]);
        }
        due(what + ", " + text + ", no more", x.filled(first.length), NONE);
        due(what + ", " + text + " stays", x.told(0), text.length());
    }

    // Ways to write a PERSON for each ? by which all PARTS can be: a GLASS of 0 or less, FIRE always.
    private static void filledWays() {
        filled("A owes 1", Checks.behind("A2.1"), "?1", 5, 1);
        filled("A owes 0", Checks.behind("A2.2"), "?1", 6, 0);
        filled("A owes 1, fire", Checks.behind("A2.1"), "?!1", 6, 0);
        filled("F owes 1", Checks.behind("F2.1"), "?1", 5, 0);
        filled("all but F owe some", allButF(), "?1", 1, 5);
        filled("all but F owe some", allButF(), "?1?1", 1, 5, 5);
        filled("B owes 4, C 9, A more", allButF(), "?9?1", 3, 5, 1);
        filled("B owes 4, C 9, A more", allButF(), "?8?1", 2, 5, 1);
        filled("none saved", new SilentAfter(), "?1A1", 5, 1);
        filled("1 saved", Checks.behind(".1"), "?1A1", 6, 0);
        filled("1 saved", Checks.behind(".1"), "?2A1", 5, 1);
        filled("a part that can not be", Checks.behind("A1"), "A1?1", 0);
        filled("a part behind it that can not be", new SilentAfter(), "?1A1A9A1", 0);
        filled("a part behind it that can be", new SilentAfter(), "?1,A1.1A1", 6, 0);
    }

    private static SilentAfter allButF() {
        SilentAfter x = new SilentAfter();
        x.set(1, 4);
        Checks.write(x, "A!12B!10C!9D!9E!9").done();
        return x;
    }

    // How many; the first by letters: the first ? weighs most.
    private static void filledFirstByLetters() {
        filled("each but twice the same", new SilentAfter(), "?5?5", 30, 0, 1);
        filled("A speaks between", new SilentAfter(), "?!1A1?!1", 30, 1, 0);
        SilentAfter x = new SilentAfter();
        x.seen(2, 4);
        filled("C is the second", x, "?!2?!3", 5, 0, 2);
        x.forget();
        x.seen(2, 1);
        filled("C is the first", x, "?!2?!3", 5, 2, 0);
        x.forget();
        x.seen(5, 12);
        filled("F is all", x, "?!1?!2?!3", 1, 5, 5, 5);
        x.forget();
        x.seen(5, 5);
        filled("F is the first two or the third", x, "?!1?!2?!3", 0);
        x.forget();
        x.seen(5, 3);
        filled("F is the third, or the first two", x, "?!1?!2?!3", 30, 0, 0, 5);
    }

    // All SIGHTS hold: behind the TEXT a GLASS shows v.
    private static void filledSights() {
        for (int v : new int[] {-99, 999}) {
            SilentAfter x = new SilentAfter();
            x.set(0, 99);
            x.set(1, 1);
            Checks.write(x, v < 0 ? ".98" : "A!99".repeat(10) + "A!8").done();
            x.seen(0, v);
            filled("one above -99, one below 999", x, "", 0);
            filled("it shows " + v, x, v < 0 ? ".1" : "A!1", 1);
            filled("A speaks to it", x, v < 0 ? "F1" : "?!1", 1, v < 0 ? new int[0] : new int[] {0});
            x.forget();
            x.seen(0, v < 0 ? -98 : 998);
            filled("it shows " + v + " no more", x, "", 1);
        }
        for (int wrong = -1; wrong < 6; wrong++) {
            SilentAfter x = Checks.behind("A5");
            for (int i = 0; i < 6; i++) {
                x.seen(i, (i == 0 ? 5 : -5) + (i == wrong ? 1 : 0));
            }
            filled("six, number " + wrong + " does not hold", x, "", wrong == -1 ? 1 : 0);
            filled("six, behind a second", x, ".1", 0);
        }
        SilentAfter x = new SilentAfter();
        x.seen(1, 0);
        x.seen(1, 1);
        filled("two of the same that can not both hold", x, "?1", 0);
        x.forget();
        x.seen(1, 1);
        x.seen(1, 1);
        filled("two of the same", x, "?1", 1, 1);
    }

    // NO: there is a FAULT.
    private static void filledRefusals() {
        String[] faults = {"A", "?", "?1?1?1?1", "A0", "G", "?1A", "?100"};
        for (String text : faults) {
            for (int i : new int[] {-1, 0, 1, 3, -2, Integer.MIN_VALUE, Integer.MAX_VALUE}) {
                EDGES.refused("filled(" + i + ") of " + text, () -> Edges.busy(text), x -> x.filled(i), NO);
            }
        }
        EDGES.refused("filled, full, a fault", () -> Edges.full("A"), x -> x.filled(-1), NO);
        due("filled, full", Edges.full("A!1").filled(-1), 0);
    }

    private static void burns(SilentAfter x, String text, int person, int upper, int lower) {
        Checks.write(x, text);
        due("burns of " + person + " in " + text + ", upper", x.burns(person, 0), upper);
        due("burns of " + person + " in " + text + ", lower", x.burns(person, 1), lower);
    }

    // The chance that a PERSON neither speaks in it nor has a GLASS above 0 at its beginning.
    private static void burnsAt0() {
        burns(new SilentAfter(), "A1.1", 0, 0, 1);
        burns(new SilentAfter(), "A1.2", 0, 1, 3);
        burns(new SilentAfter(), "A!1.2", 0, 0, 1);
        burns(new SilentAfter(), "A!1.3", 0, 1, 4);
        burns(Checks.behind("A2.1"), ".1", 0, 0, 1);
        burns(Checks.behind("A2.2"), ".1", 0, 1, 1);
        burns(Checks.behind("A2.1"), "B2", 0, 1, 2);
        burns(Checks.behind("A2.1"), "B!2", 0, 1, 2);
        burns(Checks.behind("A2"), "B2", 0, 0, 1);
        burns(Checks.behind("A2"), "B2.1", 0, 1, 3);
        burns(Checks.behind("A2"), ",.1", 0, 1, 1);
        burns(Checks.behind("A2"), ".1,.1", 0, 1, 2);
        // He speaks with seconds saved: his glass is never above 0.
        burns(Checks.behind(".9"), "A1A1.1", 0, 1, 3);
        burns(Checks.behind(".9"), "A!1A!1.1", 0, 1, 3);
    }

    // Fractions in lowest terms by part: 0 the upper, 1 the lower number.
    private static void burnsInLowestTerms() {
        burns(new SilentAfter(), "A1", 0, 0, 1);
        burns(new SilentAfter(), "A1", 1, 1, 1);
        burns(new SilentAfter(), "A99", 0, 0, 1);
        burns(new SilentAfter(), "A99", 5, 1, 1);
        burns(new SilentAfter(), "A5,.5", 0, 1, 2);
        burns(new SilentAfter(), "A6,.9", 0, 3, 5);
        burns(new SilentAfter(), "A5,.8", 0, 8, 13);
        burns(new SilentAfter(), "A1,.99", 0, 99, 100);
        burns(new SilentAfter(), "A98,.2", 0, 1, 50);
        burns(new SilentAfter(), "A1," + ".99".repeat(19), 0, 1881, 1882);
        burns(new SilentAfter(), ".99".repeat(20), 0, 1, 1);
        burns(new SilentAfter(), "A99" + ",.99".repeat(14), 0, 14, 15);
    }

    // Promise 21: UNKNOWN; OUTSIDE. LOST and the refusal (added: LOST - 1 for UNKNOWN).
    private static void burnsPersonsAndParts() {
        int[] upper = {4, 7, 1, 5, 2, 1};
        int[] lower = {5, 11, 2, 13, 7, 5};
        for (int person = 0; person <= 5; person++) {
            String text = (char) ('A' + person) + "" + (person + 1) + ".9";
            burns(new SilentAfter(), text, person, upper[person], lower[person]);
            burns(new SilentAfter(), text, (person + 1) % 6, 1, 1);
        }
        for (int person : Edges.NO_PERSONS) {
            EDGES.refusedAnywhere("burns(" + person + ", 0)", y -> y.burns(person, 0), LOST - 1);
            EDGES.refusedAnywhere("burns(" + person + ", 1)", y -> y.burns(person, 1), LOST - 1);
        }
        for (int part : new int[] {-1, 2, Integer.MIN_VALUE, Integer.MAX_VALUE}) {
            EDGES.refusedAnywhere("burns(0, " + part + ")", y -> y.burns(0, part), LOST - 2);
            EDGES.refusedAnywhere("burns(6, " + part + ")", y -> y.burns(6, part), LOST - 1);
        }
    }

    // NO, STATE, as of done(); FULL: the TEXT takes no TIME (1 second at least).
    private static void burnsRefusals() {
        String[] texts = {"A", "A1G", "?1A", ",G", "A1A1", "A1?1", "?1", "", ",", ",".repeat(60)};
        int[] answers = {NO, NO, NO, NO, NO, STATE, STATE, FULL, FULL, FULL};
        for (int i = 0; i < texts.length; i++) {
            String text = texts[i];
            for (int part = 0; part <= 1; part++) {
                int p = part;
                EDGES.refused("burns(1, " + p + ") of \"" + text + "\"", () -> Edges.busy(text), x -> x.burns(1, p),
                        LOST + answers[i]);
            }
            EDGES.refused("OUTSIDE ahead of it: " + text, () -> Edges.busy(text), x -> x.burns(1, 2), LOST - 2);
            EDGES.refused("OUTSIDE ahead of it: " + text, () -> Edges.busy(text), x -> x.burns(1, -1), LOST - 2);
            EDGES.refused("UNKNOWN ahead of it: " + text, () -> Edges.busy(text), x -> x.burns(6, 0), LOST - 1);
            EDGES.refused("UNKNOWN ahead of it: " + text, () -> Edges.busy(text), x -> x.burns(-1, 2), LOST - 1);
        }
        burns(new SilentAfter(), ",.1,", 0, 1, 1);
        due("A's glass at 1", Checks.write(Checks.behind("A2.1"), "A1").burns(1, 0), LOST - 5);
        due("A's glass at 0", Checks.write(Checks.behind("A2.2"), "A1").burns(1, 0), 1);
    }

    // A YEAR by a seed (0 to 9999) of n turns (1 to 99).
    private static void yearNumbers() {
        SilentAfter x = new SilentAfter();
        // 74: C says 4; 5624: C is not free; 28652: nor then; 51790: E says 1.
        int[][] first = {{0, 0, 0}, {0, 0, 0}, {1, 1, 1}, {0, 0, 0}, {0, 0, 1}, {0, 0, 0}};
        for (int person = 0; person <= 5; person++) {
            due("seed 0, 1 turn, of " + person, x.year(0, 1, person), first[person][0]);
            due("seed 0, 3 turns, of " + person, x.year(0, 3, person), first[person][1]);
            due("seed 0, 4 turns, of " + person, x.year(0, 4, person), first[person][2]);
        }
        // 29092: E says 7; 19253: F says 5.
        due("seed 9999, 1 turn, E", x.year(9999, 1, 4), 1);
        due("seed 9999, 1 turn, F", x.year(9999, 1, 5), 0);
        due("seed 9999, 2 turns, F", x.year(9999, 2, 5), 1);
        due("TIME stays", x.told(1), 0);
        due("glasses stay", x.told(14), 1000);
        SilentAfter owes = Checks.behind("C5");
        due("from glasses as they are, 4 turns", owes.year(0, 4, 2), 0);
        due("from glasses as they are", owes.year(0, 4, 4), 1);
        SilentAfter mine = Checks.behind("A50");
        int all = 0;
        for (int person = 1; person <= 5; person++) {
            all += mine.year(9999, 99, person) > 0 ? 1 : 0;
        }
        due("99 turns, all the others", all, 5);
    }

    // Promise 22: UNKNOWN; OUTSIDE.
    private static void yearRefusals() {
        for (int person : Edges.NO_PERSONS) {
            EDGES.refusedAnywhere("year(5, 5, " + person + ")", x -> x.year(5, 5, person), UNKNOWN);
            EDGES.refused("ahead of the seed", SilentAfter::new, x -> x.year(10000, 5, person), UNKNOWN);
            EDGES.refused("ahead of n", SilentAfter::new, x -> x.year(5, 0, person), UNKNOWN);
        }
        for (int seed : new int[] {-1, 10000, Integer.MIN_VALUE, Integer.MAX_VALUE}) {
            EDGES.refusedAnywhere("year(" + seed + ", 5, 0)", x -> x.year(seed, 5, 0), OUTSIDE);
        }
        for (int n : new int[] {0, 100, -1, Integer.MIN_VALUE, Integer.MAX_VALUE}) {
            EDGES.refusedAnywhere("year(5, " + n + ", 0)", x -> x.year(5, n, 0), OUTSIDE);
        }
        // 99 turns are taken: the last of them counts.
        int[] turns = new int[100];
        for (int n = 1; n <= 99; n++) {
            for (int person = 0; person <= 5; person++) {
                turns[n] += new SilentAfter().year(4711, n, person);
            }
            due("turn " + n + " makes one saying more at most", turns[n] - turns[n - 1] >> 1, 0);
        }
    }

    // x becomes (75 x and 74) left over by 65537: 65474 from 872, 12 from 873.
    private static void yearWrapsAround() {
        SilentAfter x = new SilentAfter();
        for (int person = 0; person <= 5; person++) {
            due("seed 872, of " + person, x.year(872, 1, person), person == 2 ? 1 : 0);
            due("seed 873, of " + person, x.year(873, 1, person), person == 0 ? 1 : 0);
        }
        for (int seed = 0; seed < 10000; seed += 33) {
            long first = (75L * seed + 74) % 65537;
            due("the first of seed " + seed, x.year(seed, 1, (int) (first % 6)), 1);
        }
    }

    // 1 and what x by 6 (cut) leaves over by 9 seconds; if he is not free, a second of silence.
    private static void yearSecondsAndSilence() {
        SlowModel slow = new SlowModel();
        for (int seed = 0; seed < 10000; seed += 101) {
            SilentAfter x = new SilentAfter();
            for (int n = 1; n <= 12; n++) {
                due("seed " + seed + ", " + n + " turns", x.year(seed, n, seed % 6), slow.call("year", seed, n, seed % 6));
            }
            due("seed " + seed + ", 99 turns", x.year(seed, 99, seed % 6), slow.call("year", seed, 99, seed % 6));
        }
    }

    // Promise 23: kept in an IMAGE (0, 1): 1. OUTSIDE.
    private static void imageNumbers() {
        SilentAfter x = new SilentAfter();
        due("image(0)", x.image(0), 1);
        due("image(1)", x.image(1), 1);
        for (int n : new int[] {-1, 2, Integer.MIN_VALUE, Integer.MAX_VALUE}) {
            EDGES.refusedAnywhere("image(" + n + ")", y -> y.image(n), OUTSIDE);
            EDGES.refusedAnywhere("restore(" + n + ")", y -> y.restore(n), OUTSIDE);
        }
    }

    // Promise 24: STATE: it was not kept. OUTSIDE comes ahead of STATE.
    private static void restoreNotKept() {
        EDGES.refused("restore(0) of none", SilentAfter::new, x -> x.restore(0), STATE);
        EDGES.refused("restore(1) of none", SilentAfter::new, x -> x.restore(1), STATE);
        for (int kept = 0; kept <= 1; kept++) {
            int n = kept;
            EDGES.refused("just the other one is kept", () -> justKept(n), x -> x.restore(1 - n), STATE);
            SilentAfter x = justKept(n);
            due("the kept one", x.restore(n), 1);
            due("A's glass", x.told(10), 1005);
            due("the other one is not kept still", x.restore(1 - n), STATE);
            due("restored again", x.restore(n), 1);
        }
        SilentAfter y = new SilentAfter();
        due("image(2) keeps nothing", y.image(2), OUTSIDE);
        due("image(-1) keeps nothing", y.image(-1), OUTSIDE);
        due("restore(0)", y.restore(0), STATE);
        due("restore(1)", y.restore(1), STATE);
    }

    private static SilentAfter justKept(int n) {
        SilentAfter x = Checks.behind("A5");
        x.image(n);
        return Checks.write(Edges.silent(x, 2), "B1");
    }

    private static void keeps(String what, Consumer<SilentAfter> change, int told) {
        SilentAfter x = Edges.busy("");
        int before = x.told(told);
        x.image(0);
        change.accept(x);
        due(what + " has changed", x.told(told) == before ? 1 : 0, 0);
        due(what + ", restore", x.restore(0), 1);
        due(what + " is as it was", x.told(told), before);
    }

    // All but the PAD is kept. It is as it was when it was kept.
    private static void restoreAllButThePad() {
        keeps("TIME", x -> Edges.silent(x, 1), 1);
        keeps("BOUND", x -> x.set(0, 13), 2);
        keeps("FIRE", x -> x.set(1, 2), 3);
        keeps("SAYINGS, one more", x -> x.saying(0, 1, -1), 4);
        keeps("SAYINGS, none", x -> x.drop(), 4);
        keeps("SIGHTS, one more", x -> x.seen(0, 1), 5);
        keeps("SIGHTS, none", x -> x.forget(), 5);
        for (int person = 0; person <= 5; person++) {
            String text = (char) ('A' + person) + "!1";
            keeps("glass " + person, x -> Checks.write(x, text).done(), 10 + person);
        }
        String[] pads = {"", "A1", "?", ",".repeat(60)};
        for (String kept : pads) {
            for (String pad : pads) {
                SilentAfter x = Checks.write(new SilentAfter(), kept);
                x.image(1);
                Checks.write(x, pad);
                int fault = x.fault();
                due("restore", x.restore(1), 1);
                due("the pad stays: signs", x.told(0), pad.length());
                due("the pad stays: fault", x.fault(), fault);
            }
        }
        SilentAfter busy = Edges.busy("?9");
        String now = Checks.everything(busy);
        due("restore(0)", busy.restore(0), 1);
        String first = Checks.everything(busy);
        due("restore(1)", busy.restore(1), 1);
        String second = Checks.everything(busy);
        busy.forget();
        busy.drop();
        busy.saying(5, 99, -1);
        busy.seen(0, 7);
        due("restore(0) again", busy.restore(0), 1);
        due("it is as it was in 0", Checks.everything(busy).equals(first) ? 1 : 0, 1);
        due("restore(1) again", busy.restore(1), 1);
        due("it is as it was in 1", Checks.everything(busy).equals(second) ? 1 : 0, 1);
        due("they differ", now.equals(first) || now.equals(second) || first.equals(second) ? 1 : 0, 0);
        SilentAfter x = new SilentAfter();
        x.image(0);
        Checks.write(x, "A5").done();
        x.image(1);
        due("restore(0)", x.restore(0), 1);
        x.image(1);
        due("restore(1), kept anew", x.restore(1), 1);
        due("it is as it was when it was kept last", x.told(10), 1000);
    }

    // An image of a new object, and of a full one.
    private static void restoreEmptyAndFull() {
        SilentAfter x = new SilentAfter();
        String first = Checks.everything(x);
        x.image(0);
        for (int i = 0; i < 7; i++) {
            x.saying(i % 3, 5 + i, i - 1);
            x.seen(i % 6, i);
        }
        x.set(0, 0);
        x.set(1, 4);
        Checks.write(x, "A5B5").done();
        String full = Checks.everything(x);
        x.image(1);
        due("restore of the new one", x.restore(0), 1);
        due("it is as a new one", Checks.everything(x).equals(first) ? 1 : 0, 1);
        due("a first saying", x.saying(0, 1, -1), 1);
        due("a first sight", x.seen(0, 0), 1);
        due("restore of the full one", x.restore(1), 1);
        due("it is as the full one", Checks.everything(x).equals(full) ? 1 : 0, 1);
        due("an eighth saying", x.saying(0, 1, -1), FULL);
        due("a seventh sight", x.seen(0, 0), FULL);
        due("seven go", x.drop(), 7);
        due("six go", x.forget(), 6);
    }

    // Promise 25: 0 signs .. 5 SIGHTS, 10 to 15 GLASSES and 1000. OUTSIDE.
    private static void toldNumbers() {
        SilentAfter x = new SilentAfter();
        int[] first = {0, 0, 9, 2, 0, 0};
        for (int what = -3; what < 20; what++) {
            int want = what >= 0 && what <= 5 ? first[what] : what >= 10 && what <= 15 ? 1000 : OUTSIDE;
            due("told(" + what + ") of a new one", x.told(what), want);
        }
        for (int what : new int[] {-1, 6, 9, 16, Integer.MIN_VALUE, Integer.MAX_VALUE}) {
            EDGES.refusedAnywhere("told(" + what + ")", y -> y.told(what), OUTSIDE);
        }
        SilentAfter full = Edges.full("A!1");
        due("60 signs", full.told(0), 60);
        due("7 sayings", full.told(4), 7);
        due("6 sights", full.told(5), 6);
        SilentAfter low = new SilentAfter();
        low.set(0, 99);
        Edges.silent(low, 99);
        for (int what = 10; what <= 15; what++) {
            due("the lowest glass, told(" + what + ")", low.told(what), 901);
        }
        low.set(1, 4);
        Checks.write(low, "F!99".repeat(15)).done();
        due("the highest glass", low.told(15), 6841);
        due("TIME", low.told(1), 1584);
    }

    // What is taken and only asks changes nothing either.
    private static void askingChangesNothing() {
        for (String text : new String[] {"", "B5,C!3A1", "A!1?1", "A1"}) {
            asks("fault of " + text, text, SilentAfter::fault);
            asks("judge of " + text, text, SilentAfter::judge);
            asks("behind of " + text, text, x -> x.behind(0) + x.behind(-1));
            asks("filled of " + text, text, x -> x.filled(-1) + x.filled(0));
            asks("burns of " + text, text, x -> x.burns(2, 0) + x.burns(2, 1));
        }
        asks("free", "A1", x -> x.free(0) + x.free(1));
        asks("answer", "A1", x -> x.answer(1, 99) + x.answer(5, 1));
        asks("soonest", "A1", x -> x.soonest(-1) + x.soonest(-2) + x.soonest(0) + x.soonest(4));
        asks("whom", "A1", x -> x.whom(1, 0) + x.whom(99, 1));
        asks("quarrel", "A1", x -> x.quarrel(0, 1, 1, 99, 999, 0) + x.quarrel(1, 5, 0, 5, 50, 1));
        asks("length", "A1", x -> x.length(0, 999, 0) + x.length(1, 0, 1));
        asks("year", "A1", x -> x.year(0, 1, 0) + x.year(9999, 99, 5));
        asks("told", "A1", x -> x.told(0) + x.told(15));
    }

    private static void asks(String what, String text, ToLongFunction<SilentAfter> call) {
        EDGES.changesNothing(what, () -> Edges.busy(text), call);
        EDGES.changesNothing(what + ", full", () -> Edges.full(text), call);
    }
}
