/** Boundaries in part 3 and in promises 12 to 17. */
public final class EdgesOfTalksTest {
    private static final Edges EDGES = new Edges("boundaries, promises 12 to 17");
    private static final int NONE = SilentAfter.NONE, UNKNOWN = SilentAfter.UNKNOWN, OUTSIDE = SilentAfter.OUTSIDE;
    private static final int FULL = SilentAfter.FULL;

    private static void due(String what, long got, long want) {
        EDGES.due(what, got, want);
    }

    public static void main(String[] args) {
        sevenSayings();
        sayingPersons();
        sayingSeconds();
        sayingBehind();
        sayingOrder();
        dropOfNoneAndSeven();
        soonestOfNone();
        soonestNumbers();
        soonestWaits();
        soonestBehind();
        soonestIsTheFirst();
        whomRefusals();
        whomTheFirst();
        whomDownToTheBound();
        quarrelWithin();
        quarrelWaits();
        quarrelSeconds();
        quarrelRefusals();
        lengthWithin();
        lengthLeastAndLongest();
        lengthFromAGlass();
        lengthRefusals();
        EDGES.end();
    }

    /** A talk of these: person, seconds, behind; one after another. */
    private static SilentAfter talk(SilentAfter x, int... sayings) {
        for (int i = 0; i + 2 < sayings.length; i += 3) {
            due("a told saying", x.saying(sayings[i], sayings[i + 1], sayings[i + 2]), i / 3 + 1);
        }
        return x;
    }

    private static void order(String what, SilentAfter x, int seconds, int silence, int... sayings) {
        due(what + ", seconds", x.soonest(-1), seconds);
        due(what + ", silence", x.soonest(-2), silence);
        for (int i = 0; i < sayings.length; i++) {
            due(what + ", saying " + i, x.soonest(i), sayings[i]);
        }
        due(what + ", no more", x.soonest(sayings.length), NONE);
        due(what + ", ahead of -2", x.soonest(-3), NONE);
    }

    // A TALK: SAYINGS, 7 at most. Promise 12: a SAYING more: how many. FULL.
    private static void sevenSayings() {
        SilentAfter x = new SilentAfter();
        for (int i = 1; i <= 7; i++) {
            due("saying " + i, x.saying(1, i, -1), i);
            due("told", x.told(4), i);
        }
        due("the eighth", x.saying(1, 1, -1), FULL);
        due("the eighth, behind the seventh", x.saying(1, 1, 6), FULL);
        due("told", x.told(4), 7);
        order("seven of B", x, 49, 21, 0, 1, 2, 3, 4, 5, 6);
        x.drop();
        due("room again", x.saying(1, 1, -1), 1);
        EDGES.refused("the eighth", () -> Edges.full("A!1"), y -> y.saying(0, 1, -1), FULL);
        EDGES.refused("the eighth, 99", () -> Edges.full("A!1"), y -> y.saying(5, 99, 6), FULL);
        EDGES.refused("the eighth, behind the first", () -> Edges.full("A!1"), y -> y.saying(5, 99, 0), FULL);
    }

    // UNKNOWN: the PERSON.
    private static void sayingPersons() {
        for (int person = 0; person <= 5; person++) {
            SilentAfter x = Checks.behind((char) ('A' + person) + "9");
            due("saying by " + person, x.saying(person, 5, -1), 1);
            due("who waits for " + person, x.soonest(-1), 14);
        }
        for (int person : Edges.NO_PERSONS) {
            EDGES.refusedAnywhere("saying(" + person + ", 5, -1)", x -> x.saying(person, 5, -1), UNKNOWN);
        }
    }

    // Of d seconds (1 to 99). OUTSIDE.
    private static void sayingSeconds() {
        order("d 1", talk(new SilentAfter(), 0, 1, -1), 1, 0, 0);
        order("d 99", talk(new SilentAfter(), 0, 99, -1), 99, 0, 0);
        for (int d : new int[] {0, 100, -1, Integer.MIN_VALUE, Integer.MAX_VALUE}) {
            EDGES.refusedAnywhere("saying(0, " + d + ", -1)", x -> x.saying(0, d, -1), OUTSIDE);
        }
    }

    // Perhaps behind a told one ahead of it in number (-1: none). UNKNOWN: a SAYING that there is not.
    private static void sayingBehind() {
        SilentAfter x = new SilentAfter();
        for (int count = 0; count < 7; count++) {
            due("behind itself, " + count + " told", x.saying(0, 1, count), UNKNOWN);
            due("behind a later one, " + count + " told", x.saying(0, 1, count + 1), UNKNOWN);
            due("behind -2, " + count + " told", x.saying(0, 1, -2), UNKNOWN);
            due("behind the last one, " + count + " told", x.saying(count % 2, 1, count - 1), count + 1);
        }
        due("behind the seventh", x.saying(0, 1, 6), FULL);
        due("behind an eighth", x.saying(0, 1, 7), UNKNOWN);
        order("a chain of seven", x, 7, 0, 0, 1, 2, 3, 4, 5, 6);
        due("none to be behind", new SilentAfter().saying(0, 1, 0), UNKNOWN);
        for (int behind : new int[] {-2, 7, Integer.MIN_VALUE, Integer.MAX_VALUE}) {
            EDGES.refusedAnywhere("saying(0, 1, " + behind + ")", y -> y.saying(0, 1, behind), UNKNOWN);
        }
        EDGES.refused("behind itself", () -> Edges.busy("A!1"), y -> y.saying(0, 1, 4), UNKNOWN);
        due("behind the last of four", Edges.busy("").saying(0, 1, 3), 5);
    }

    // UNKNOWN, OUTSIDE, FULL: the first of these that fits.
    private static void sayingOrder() {
        EDGES.refused("the person ahead of OUTSIDE", SilentAfter::new, x -> x.saying(6, 0, -1), UNKNOWN);
        EDGES.refused("the saying ahead of OUTSIDE", SilentAfter::new, x -> x.saying(0, 100, 0), UNKNOWN);
        EDGES.refused("the saying -2 ahead of OUTSIDE", SilentAfter::new, x -> x.saying(0, 0, -2), UNKNOWN);
        EDGES.refused("the person ahead of FULL", () -> Edges.full(""), x -> x.saying(-1, 1, -1), UNKNOWN);
        EDGES.refused("the saying ahead of FULL", () -> Edges.full(""), x -> x.saying(0, 1, 7), UNKNOWN);
        EDGES.refused("OUTSIDE ahead of FULL", () -> Edges.full(""), x -> x.saying(0, 0, -1), OUTSIDE);
        EDGES.refused("OUTSIDE ahead of FULL, 100", () -> Edges.full(""), x -> x.saying(0, 100, 6), OUTSIDE);
        EDGES.refused("all at once", () -> Edges.full(""), x -> x.saying(6, 0, 7), UNKNOWN);
    }

    // Promise 13: all SAYINGS go: how many there were.
    private static void dropOfNoneAndSeven() {
        SilentAfter x = new SilentAfter();
        due("drop of none", x.drop(), 0);
        talk(x, 0, 1, -1);
        due("drop of one", x.drop(), 1);
        due("drop of none again", x.drop(), 0);
        talk(x, 0, 1, -1, 0, 1, 0, 0, 1, 1, 0, 1, 2, 0, 1, 3, 0, 1, 4, 0, 1, 5);
        due("drop of seven", x.drop(), 7);
        due("none is left", x.told(4), 0);
        order("none is left", x, 0, 0);
        due("none to be behind", x.saying(0, 1, 0), UNKNOWN);
    }

    // A TALK of no SAYINGS is over at once.
    private static void soonestOfNone() {
        order("no talk", new SilentAfter(), 0, 0);
        SilentAfter x = Checks.behind("A5");
        order("no talk, A owes 5", x, 0, 0);
        order("one", talk(x, 1, 3, -1), 3, 0, 0);
    }

    // Promise 14: seconds (i = -1), SILENCE (-2), the i-th SAYING; NONE.
    private static void soonestNumbers() {
        for (int count = 0; count <= 7; count++) {
            SilentAfter x = new SilentAfter();
            for (int i = 0; i < count; i++) {
                x.saying(i % 6, 2, i - 1);
            }
            for (int i = 0; i < 9; i++) {
                due(count + " told, soonest(" + i + ")", x.soonest(i), i < count ? i : NONE);
            }
            due(count + " told, seconds", x.soonest(-1), 2 * count);
            for (int i : new int[] {-3, -4, Integer.MIN_VALUE, Integer.MAX_VALUE}) {
                due(count + " told, soonest(" + i + ")", x.soonest(i), NONE);
            }
        }
        EDGES.refusedAnywhere("soonest(-3)", x -> x.soonest(-3), NONE);
        EDGES.refusedAnywhere("soonest(7)", x -> x.soonest(7), NONE);
    }

    // Each as soon as who says it is free (in silence meanwhile): SILENCE.
    private static void soonestWaits() {
        order("a glass of 1", talk(Checks.behind("A2.1"), 0, 5, -1), 6, 1, 0);
        order("a glass of 0", talk(Checks.behind("A2.2"), 0, 5, -1), 5, 0, 0);
        order("a glass of -1", talk(Checks.behind("A2.3"), 0, 5, -1), 5, 0, 0);
        order("5 and 1 behind it", talk(new SilentAfter(), 0, 5, -1, 0, 1, 0), 11, 5, 0, 1);
        order("1 saved, 1 and 1", talk(Checks.behind(".1"), 0, 1, -1, 0, 1, -1), 2, 0, 0, 1);
        order("1 saved, 2 and 2", talk(Checks.behind(".1"), 0, 2, -1, 0, 2, -1), 5, 1, 0, 1);
        order("B says 4 of 5", talk(new SilentAfter(), 0, 5, -1, 1, 4, 0, 0, 1, 1), 11, 1, 0, 1, 2);
        order("B says 5 of 5", talk(new SilentAfter(), 0, 5, -1, 1, 5, 0, 0, 1, 1), 11, 0, 0, 1, 2);
        order("B says 6 of 5", talk(new SilentAfter(), 0, 5, -1, 1, 6, 0, 0, 1, 1), 12, 0, 0, 1, 2);
        // While B is silent for A's 9 he saves 9 at most.
        order("up to the bound", talk(new SilentAfter(), 0, 12, -1, 1, 9, 0, 1, 1, 1), 22, 0, 0, 1, 2);
        order("beyond the bound", talk(new SilentAfter(), 0, 12, -1, 1, 10, 0, 1, 1, 1), 24, 1, 0, 1, 2);
        SilentAfter x = new SilentAfter();
        x.set(0, 0);
        order("a bound of 0", talk(x, 0, 12, -1, 1, 1, 0, 1, 1, 1), 15, 1, 0, 1, 2);
        SilentAfter y = new SilentAfter();
        Edges.silent(y, 9);
        y.set(0, 5);
        order("below the bound nothing is taken", talk(y, 0, 50, -1, 1, 9, 0, 1, 1, 1), 60, 0, 0, 1, 2);
        order("twice 99", talk(new SilentAfter(), 0, 99, -1, 0, 99, -1), 297, 99, 0, 1);
        SilentAfter z = new SilentAfter();
        z.set(1, 4);
        Checks.write(z, "C!99".repeat(15)).done();
        talk(z, 2, 99, -1, 2, 99, 0, 2, 99, 1, 2, 99, 2, 2, 99, 3, 2, 99, 4, 2, 99, 5);
        order("the longest wait", z, 7227, 6534, 0, 1, 2, 3, 4, 5, 6);
    }

    // Behind a told one: said in some order that keeps this.
    private static void soonestBehind() {
        order("free", talk(new SilentAfter(), 0, 9, -1, 0, 1, -1), 11, 1, 1, 0);
        order("behind the first", talk(new SilentAfter(), 0, 9, -1, 0, 1, 0), 19, 9, 0, 1);
        order("the third behind the second", talk(new SilentAfter(), 0, 9, -1, 1, 4, -1, 0, 1, 1), 14, 0, 1, 2, 0);
        order("the third behind the first", talk(new SilentAfter(), 0, 9, -1, 1, 4, -1, 0, 1, 0), 19, 5, 0, 1, 2);
        order("the last behind the first of seven", talk(new SilentAfter(), 0, 1, -1, 1, 1, -1, 2, 1, -1, 3, 1, -1,
                4, 1, -1, 5, 1, -1, 0, 1, 0), 7, 0, 0, 1, 2, 3, 4, 5, 6);
    }

    // In the fewest seconds; the first by numbers.
    private static void soonestIsTheFirst() {
        order("all alike", talk(new SilentAfter(), 0, 5, -1, 1, 5, -1, 2, 5, -1), 15, 0, 0, 1, 2);
        order("as soon", talk(new SilentAfter(), 0, 5, -1, 0, 5, -1, 1, 5, -1), 15, 0, 0, 2, 1);
        // A second sooner by another order than that of the numbers.
        order("one second sooner", talk(new SilentAfter(), 0, 2, -1, 0, 1, -1), 4, 1, 1, 0);
        order("not sooner", talk(new SilentAfter(), 0, 1, -1, 0, 1, -1), 3, 1, 0, 1);
        order("A owes 1", talk(Checks.behind("A1"), 0, 1, -1, 1, 1, -1), 2, 0, 1, 0);
        order("A owes 0", talk(Checks.behind("A1.1"), 0, 1, -1, 1, 1, -1), 2, 0, 0, 1);
    }

    // WHOM to give s seconds (1 to 99). Promise 15: WHOM (what = 0), seconds then (1). OUTSIDE.
    private static void whomRefusals() {
        SilentAfter x = talk(Checks.behind("D!99"), 3, 5, -1);
        due("s 1, whom", x.whom(1, 0), 3);
        due("s 1, seconds", x.whom(1, 1), 202);
        due("s 99, whom", x.whom(99, 0), 3);
        due("s 99, seconds", x.whom(99, 1), 104);
        for (int s : new int[] {0, 100, -1, Integer.MIN_VALUE, Integer.MAX_VALUE}) {
            EDGES.refusedAnywhere("whom(" + s + ", 0)", y -> y.whom(s, 0), OUTSIDE);
            EDGES.refusedAnywhere("whom(" + s + ", 1)", y -> y.whom(s, 1), OUTSIDE);
        }
        for (int what : new int[] {-1, 2, Integer.MIN_VALUE, Integer.MAX_VALUE}) {
            EDGES.refusedAnywhere("whom(5, " + what + ")", y -> y.whom(5, what), OUTSIDE);
        }
        SilentAfter busy = Edges.busy("A!1");
        String before = Checks.everything(busy);
        due("busy, whom", busy.whom(20, 0), 0);
        due("whom changes nothing", Checks.everything(busy).equals(before) ? 1 : 0, 1);
    }

    // So that the TALK is over soonest: the first; in how many seconds.
    private static void whomTheFirst() {
        SilentAfter x = new SilentAfter();
        due("no talk, whom", x.whom(1, 0), 0);
        due("no talk, seconds", x.whom(1, 1), 0);
        talk(x, 4, 5, -1);
        due("none has to wait, whom", x.whom(9, 0), 0);
        due("none has to wait, seconds", x.whom(9, 1), 5);
        for (int person = 0; person <= 5; person++) {
            SilentAfter y = talk(Checks.behind((char) ('A' + person) + "2.1"), person, 5, -1);
            due("who waits 1, whom", y.whom(1, 0), person);
            due("who waits 1, seconds", y.whom(1, 1), 5);
            SilentAfter z = talk(Checks.behind((char) ('A' + person) + "2.2"), person, 5, -1);
            due("who waits 0, whom", z.whom(1, 0), 0);
        }
        // C says his 1 while B is silent: B, who owes 5, waits 4 more.
        SilentAfter two = talk(Checks.behind("B5"), 1, 5, -1, 2, 1, -1);
        due("B has to wait, whom", two.whom(4, 0), 1);
        due("B has to wait, seconds", two.whom(4, 1), 6);
        due("B has to wait, 3 are too few", two.whom(3, 1), 7);
        SilentAfter same = talk(Checks.behind("C2D!2"), 2, 1, -1, 3, 1, -1);
        due("C is free, D waits 2, whom", same.whom(1, 0), 3);
        due("C is free, D waits 2, seconds", same.whom(1, 1), 2);
    }

    // His GLASS is s less, not below 0 less BOUND, as of GIVEN.
    private static void whomDownToTheBound() {
        int[][] rows = {{9, 9, 18}, {9, 10, 21}, {10, 10, 20}, {0, 1, 3}, {1, 1, 2}, {99, 99, 198}, {98, 99, 199}};
        for (int[] row : rows) {
            SilentAfter x = new SilentAfter();
            x.set(0, row[0]);
            talk(x, 0, row[1], -1, 0, row[1], 0);
            due("BOUND " + row[0] + ", twice " + row[1], x.whom(99, 1), row[2]);
        }
        SilentAfter y = talk(new SilentAfter(), 2, 9, -1, 2, 1, 0);
        due("9 of 9, whom", y.whom(9, 0), 2);
        due("9 of 9, seconds", y.whom(9, 1), 10);
        due("8 of 9, seconds", y.whom(8, 1), 11);
        due("10, but 9 at most, seconds", talk(new SilentAfter(), 2, 10, -1, 2, 1, 0).whom(99, 1), 12);
        SilentAfter z = Edges.silent(new SilentAfter(), 9);
        talk(z, 2, 10, -1, 2, 1, 0);
        due("at the bound all is lost, whom", z.whom(9, 0), 0);
        due("at the bound all is lost, seconds", z.whom(9, 1), 12);
        z.set(0, 4);
        due("below the bound all is lost, whom", z.whom(9, 0), 0);
        due("below the bound all is lost, seconds", z.whom(9, 1), 12);
        z.set(0, 10);
        due("one above the bound, whom", z.whom(9, 0), 2);
        due("one above the bound, seconds", z.whom(9, 1), 11);
    }

    private static void quarrel(SilentAfter x, int a, int b, int t, int over, int silent) {
        due("A " + a + " and B " + b + " within " + t + ", over", x.quarrel(0, a, 1, b, t, 0), over);
        due("A " + a + " and B " + b + " within " + t + ", silent", x.quarrel(0, a, 1, b, t, 1), silent);
    }

    // How many SAYINGS are over within t seconds (0 to 999); one that is not over counts as speech up to it.
    private static void quarrelWithin() {
        SilentAfter x = new SilentAfter();
        quarrel(x, 5, 7, 0, 0, 0);
        quarrel(x, 5, 7, 4, 0, 0);
        quarrel(x, 5, 7, 5, 1, 0);
        quarrel(x, 5, 7, 6, 1, 0);
        quarrel(x, 5, 7, 11, 1, 0);
        quarrel(x, 5, 7, 12, 2, 0);
        quarrel(x, 1, 1, 1, 1, 0);
        quarrel(x, 1, 1, 998, 998, 0);
        quarrel(x, 1, 1, 999, 999, 0);
        quarrel(x, 99, 99, 989, 9, 0);
        quarrel(x, 99, 99, 990, 10, 0);
        quarrel(x, 99, 99, 999, 10, 0);
    }

    // Each as soon as he is free and the other one has done, from now.
    private static void quarrelWaits() {
        SilentAfter x = new SilentAfter();
        // A 5, B 3, silence 2, A 5 (13 to here: 15), B has saved: 3 owed less 2 less 5.
        quarrel(x, 5, 3, 8, 2, 0);
        quarrel(x, 5, 3, 9, 2, 1);
        quarrel(x, 5, 3, 10, 2, 2);
        quarrel(x, 5, 3, 11, 2, 2);
        quarrel(x, 5, 3, 14, 2, 2);
        quarrel(x, 5, 3, 15, 3, 2);
        quarrel(x, 5, 5, 20, 4, 0);
        quarrel(x, 5, 6, 22, 4, 0);
        SilentAfter owes = Checks.behind("A2.1");
        quarrel(owes, 5, 5, 1, 0, 1);
        quarrel(owes, 5, 5, 5, 0, 1);
        quarrel(owes, 5, 5, 6, 1, 1);
        SilentAfter free = Checks.behind("A2.2");
        quarrel(free, 5, 5, 4, 0, 0);
        quarrel(free, 5, 5, 5, 1, 0);
        SilentAfter fire = new SilentAfter();
        fire.set(1, 4);
        Checks.write(fire, "A!99".repeat(15)).done();
        quarrel(fire, 1, 1, 999, 0, 999);
        quarrel(fire, 1, 1, 0, 0, 0);
        due("B first, then A can not, over", fire.quarrel(1, 99, 0, 1, 999, 0), 1);
        due("B first, then A can not, silent", fire.quarrel(1, 99, 0, 1, 999, 1), 900);
        SilentAfter bound = new SilentAfter();
        bound.set(0, 0);
        quarrel(bound, 2, 1, 3, 2, 0);
        quarrel(bound, 2, 1, 4, 2, 1);
        quarrel(bound, 2, 1, 6, 3, 1);
        quarrel(bound, 2, 1, 7, 4, 1);
    }

    // A seconds each time, the other one b (1 to 99 each).
    private static void quarrelSeconds() {
        SilentAfter x = new SilentAfter();
        quarrel(x, 1, 99, 100, 2, 0);
        quarrel(x, 99, 1, 100, 2, 0);
        quarrel(x, 99, 99, 198, 2, 0);
        for (int wrong : new int[] {0, 100, -1, Integer.MIN_VALUE, Integer.MAX_VALUE}) {
            for (int what = 0; what <= 1; what++) {
                int w = what;
                EDGES.refusedAnywhere("quarrel, a " + wrong, y -> y.quarrel(0, wrong, 1, 5, 50, w), OUTSIDE);
                EDGES.refusedAnywhere("quarrel, b " + wrong, y -> y.quarrel(0, 5, 1, wrong, 50, w), OUTSIDE);
            }
        }
        for (int t : new int[] {-1, 1000, Integer.MIN_VALUE, Integer.MAX_VALUE}) {
            EDGES.refusedAnywhere("quarrel, t " + t, y -> y.quarrel(0, 5, 1, 5, t, 0), OUTSIDE);
            EDGES.refusedAnywhere("quarrel, t " + t, y -> y.quarrel(0, 5, 1, 5, t, 1), OUTSIDE);
        }
        for (int what : new int[] {-1, 2, Integer.MIN_VALUE, Integer.MAX_VALUE}) {
            EDGES.refusedAnywhere("quarrel, what " + what, y -> y.quarrel(0, 5, 1, 5, 50, what), OUTSIDE);
        }
    }

    // Promise 16: UNKNOWN, also both are one; OUTSIDE.
    private static void quarrelRefusals() {
        for (int person = 0; person <= 5; person++) {
            int who = person;
            for (int other = 0; other <= 5; other++) {
                int answer = person == other ? UNKNOWN : 2;
                due("quarrel of " + person + " and " + other, new SilentAfter().quarrel(person, 5, other, 5, 10, 0), answer);
            }
            EDGES.refusedAnywhere("quarrel of one, " + who, x -> x.quarrel(who, 5, who, 5, 10, 1), UNKNOWN);
            EDGES.refused("one ahead of OUTSIDE", SilentAfter::new, x -> x.quarrel(who, 0, who, 5, 10, 1), UNKNOWN);
        }
        for (int nobody : Edges.NO_PERSONS) {
            EDGES.refusedAnywhere("quarrel of nobody", x -> x.quarrel(nobody, 5, 0, 5, 10, 0), UNKNOWN);
            EDGES.refusedAnywhere("quarrel with nobody", x -> x.quarrel(0, 5, nobody, 5, 10, 0), UNKNOWN);
            EDGES.refused("ahead of a", SilentAfter::new, x -> x.quarrel(nobody, 0, 0, 5, 10, 0), UNKNOWN);
            EDGES.refused("ahead of b", SilentAfter::new, x -> x.quarrel(0, 5, nobody, 100, 10, 0), UNKNOWN);
            EDGES.refused("ahead of t", SilentAfter::new, x -> x.quarrel(0, 5, nobody, 5, 1000, 0), UNKNOWN);
            EDGES.refused("ahead of what", SilentAfter::new, x -> x.quarrel(nobody, 5, 0, 5, 10, 2), UNKNOWN);
        }
    }

    private static void longest(SilentAfter x, int person, int t, int d, int seconds) {
        due("length of " + person + " within " + t + ", d", x.length(person, t, 0), d);
        due("length of " + person + " within " + t + ", seconds", x.length(person, t, 1), seconds);
    }

    // SAYINGS that are over within t seconds (0 to 999). NONE: no SAYING is over.
    private static void lengthWithin() {
        SilentAfter x = new SilentAfter();
        longest(x, 0, 0, NONE, 0);
        longest(x, 0, 1, 1, 1);
        longest(x, 0, 2, 2, 2);
        longest(x, 5, 98, 98, 98);
        longest(x, 5, 99, 99, 99);
        longest(x, 5, 100, 99, 99);
        // Twice 50 and 50 of silence between.
        longest(x, 3, 149, 99, 99);
        longest(x, 3, 150, 50, 100);
        longest(x, 3, 296, 98, 196);
        longest(x, 3, 297, 99, 198);
        // Six times 90 and five times 90 of silence.
        longest(x, 3, 989, 89, 534);
        longest(x, 3, 990, 90, 540);
        longest(x, 3, 998, 90, 540);
        longest(x, 3, 999, 90, 540);
    }

    // The d by which he has spoken most seconds, the least.
    private static void lengthLeastAndLongest() {
        longest(Checks.behind(".9"), 0, 10, 1, 10);
        longest(Checks.behind(".9"), 0, 11, 11, 11);
        longest(Checks.behind(".9"), 0, 9, 1, 9);
        longest(Checks.behind(".8"), 0, 9, 1, 9);
        longest(Checks.behind(".8"), 0, 10, 2, 10);
        longest(Checks.behind(".1"), 0, 2, 1, 2);
        longest(new SilentAfter(), 0, 3, 3, 3);
        SilentAfter x = new SilentAfter();
        x.set(0, 99);
        Edges.silent(x, 99);
        longest(x, 0, 198, 99, 198);
        longest(x, 0, 99, 1, 99);
        longest(x, 0, 100, 1, 100);
        longest(x, 0, 101, 1, 100);
        longest(x, 0, 102, 3, 102);
    }

    // As soon as he is free.
    private static void lengthFromAGlass() {
        longest(Checks.behind("A2.1"), 0, 1, NONE, 0);
        longest(Checks.behind("A2.1"), 0, 2, 1, 1);
        longest(Checks.behind("A2.2"), 0, 1, 1, 1);
        longest(Checks.behind("A50"), 0, 50, NONE, 0);
        longest(Checks.behind("A50"), 0, 51, 1, 1);
        longest(Checks.behind("A50"), 0, 149, 99, 99);
        longest(Checks.behind("A50"), 1, 1, 1, 1);
        SilentAfter x = new SilentAfter();
        x.set(1, 4);
        Checks.write(x, "A!99A!99A!51").done();
        longest(x, 0, 996, NONE, 0);
        longest(x, 0, 997, 1, 1);
        Checks.write(x, "A!99".repeat(15)).done();
        longest(x, 0, 999, NONE, 0);
    }

    // Promise 17: UNKNOWN; OUTSIDE.
    private static void lengthRefusals() {
        for (int person : Edges.NO_PERSONS) {
            EDGES.refusedAnywhere("length(" + person + ", 5, 0)", x -> x.length(person, 5, 0), UNKNOWN);
            EDGES.refused("ahead of t", SilentAfter::new, x -> x.length(person, 1000, 0), UNKNOWN);
            EDGES.refused("ahead of what", SilentAfter::new, x -> x.length(person, 5, 2), UNKNOWN);
        }
        for (int t : new int[] {-1, 1000, Integer.MIN_VALUE, Integer.MAX_VALUE}) {
            EDGES.refusedAnywhere("length(0, " + t + ", 0)", x -> x.length(0, t, 0), OUTSIDE);
            EDGES.refusedAnywhere("length(0, " + t + ", 1)", x -> x.length(0, t, 1), OUTSIDE);
        }
        for (int what : new int[] {-1, 2, Integer.MIN_VALUE, Integer.MAX_VALUE}) {
            EDGES.refusedAnywhere("length(0, 5, " + what + ")", x -> x.length(0, 5, what), OUTSIDE);
        }
    }
}
