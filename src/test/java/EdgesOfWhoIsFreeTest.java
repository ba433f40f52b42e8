/** Boundaries in part 2 and in promises 8 to 11. */
public final class EdgesOfWhoIsFreeTest {
    private static final Edges EDGES = new Edges("boundaries, promises 8 to 11");
    private static final int UNKNOWN = SilentAfter.UNKNOWN, OUTSIDE = SilentAfter.OUTSIDE, STATE = SilentAfter.STATE;
    private static final int NO = SilentAfter.NO;

    private static void due(String what, long got, long want) {
        EDGES.due(what, got, want);
    }

    public static void main(String[] args) {
        behindPersons();
        behindSeconds();
        behindRefusals();
        waitEndsAt0();
        freePersons();
        answerAtD();
        answerOfHimself();
        answerSeconds();
        answerState();
        answerOrder();
        giveSaved();
        giveDownToTheBound();
        giveBelowTheBound();
        giveSeconds();
        givePersons();
        giveOrder();
        EDGES.end();
    }

    // Promise 8: a GLASS, and 1000 (person 0 on), seconds of the TEXT (-1). UNKNOWN.
    private static void behindPersons() {
        SilentAfter x = Checks.write(new SilentAfter(), "A5F7");
        int[] want = {12, 998, 991, 991, 991, 991, 1002};
        for (int person = -1; person <= 5; person++) {
            due("behind(" + person + ")", x.behind(person), want[person + 1]);
        }
        for (int person : new int[] {-2, 6, Integer.MIN_VALUE, Integer.MAX_VALUE}) {
            EDGES.refusedAnywhere("behind(" + person + ")", y -> y.behind(person), UNKNOWN);
        }
    }

    // BEHIND: GLASSES, TIME as they would be behind the TEXT: of no TEXT, and of the longest.
    private static void behindSeconds() {
        SilentAfter x = Checks.behind("A5");
        due("no TEXT, seconds", x.behind(-1), 0);
        due("no TEXT, a glass above 0", x.behind(0), 1005);
        due("no TEXT, a glass below 0", x.behind(1), 995);
        due("a night, seconds", Checks.write(x, ",").behind(-1), 0);
        due("a night, a glass above 0", x.behind(0), 1000);
        due("one second", Checks.write(x, ".1").behind(-1), 1);
        due("the longest TEXT", Checks.write(x, ".99".repeat(20)).behind(-1), 1980);
        x.set(0, 99);
        due("the lowest glass", x.behind(0), 901);
        x.set(1, 4);
        due("the highest glass", Checks.write(x, "A!99".repeat(15)).behind(0), 6945);
        due("TIME stays", x.told(1), 5);
        due("the pad stays", x.told(0), 60);
    }

    // Promise 8: NO, STATE, likewise: as of done. UNKNOWN comes first, NO ahead of STATE.
    private static void behindRefusals() {
        String[] texts = {"A", "?1A", "A1G", "A1?1", "?1", "C9A1", "C9A!1", "?1?1?1?1"};
        int[] answers = {NO, NO, NO, STATE, STATE, NO, 0, NO};
        for (int i = 0; i < texts.length; i++) {
            String text = texts[i];
            if (answers[i] == 0) {
                due("behind " + text, Edges.busy(text).behind(-1), 10);
                continue;
            }
            for (int person = -1; person <= 5; person += 3) {
                int who = person;
                EDGES.refused("behind(" + who + ") of " + text, () -> Edges.busy(text), x -> x.behind(who), answers[i]);
            }
            for (int who : new int[] {-2, 6}) {
                EDGES.refused("behind(" + who + ") of " + text, () -> Edges.busy(text), x -> x.behind(who), UNKNOWN);
            }
        }
        due("A's glass at 1", Checks.write(Checks.behind("A2.1"), "A1").behind(0), NO);
        due("A's glass at 0", Checks.write(Checks.behind("A2.2"), "A1").behind(0), 1001);
    }

    // WAIT: seconds till he is free (0: he is).
    private static void waitEndsAt0() {
        due("a glass of 2", Checks.behind("A2").free(0), 2);
        due("a glass of 1", Checks.behind("A2.1").free(0), 1);
        due("a glass of 0", Checks.behind("A2.2").free(0), 0);
        due("a glass of -1", Checks.behind("A2.3").free(0), 0);
        due("a glass of -9", Checks.behind("A2.11").free(0), 0);
        due("a glass of 0 at first", new SilentAfter().free(0), 0);
        SilentAfter x = new SilentAfter();
        x.set(1, 4);
        Checks.write(x, "F!99".repeat(15)).done();
        due("the highest glass", x.free(5), 5940);
    }

    // Promise 9: WAIT. UNKNOWN.
    private static void freePersons() {
        SilentAfter x = new SilentAfter();
        for (int person = 0; person <= 5; person++) {
            String text = (char) ('A' + person) + "" + (3 + person);
            due("free(" + person + ") behind " + text, Checks.behind(text).free(person), 3 + person);
            due("free(" + person + ") at first", x.free(person), 0);
        }
        for (int person : Edges.NO_PERSONS) {
            EDGES.refusedAnywhere("free(" + person + ")", y -> y.free(person), UNKNOWN);
        }
    }

    // ANSWER: who would be free when a SAYING of d seconds, by a PERSON who begins it now, were over.
    private static void answerAtD() {
        SilentAfter x = Checks.behind("A5");
        due("A owes 5, B says 4", x.answer(1, 4), 62);
        due("A owes 5, B says 5", x.answer(1, 5), 63);
        due("A owes 5, F says 4", x.answer(5, 4), 62);
        due("A owes 5, F says 5", x.answer(5, 5), 63);
        SilentAfter y = Checks.behind("F!2");
        due("F owes 4, A says 1", y.answer(0, 1), 31);
        due("F owes 4, A says 2", y.answer(0, 2), 31);
        due("F owes 4, A says 3", y.answer(0, 3), 30);
        due("F owes 4, A says 4", y.answer(0, 4), 62);
    }

    // (He himself, too, if he then were.)
    private static void answerOfHimself() {
        for (int person = 0; person <= 5; person++) {
            int others = 63 - (1 << person);
            due("nothing saved, says 1", new SilentAfter().answer(person, 1), others);
            SilentAfter x = Checks.behind(".3");
            due("3 saved, says 2", x.answer(person, 2), 63);
            due("3 saved, says 3", x.answer(person, 3), 63);
            due("3 saved, says 4", x.answer(person, 4), others);
        }
        SilentAfter y = new SilentAfter();
        y.set(0, 99);
        Edges.silent(y, 99);
        due("99 saved, says 99", y.answer(2, 99), 63);
        y.set(0, 0);
        due("99 saved below the bound, says 99", y.answer(2, 99), 63);
    }

    // Promise 10: UNKNOWN; OUTSIDE: d 1 to 99.
    private static void answerSeconds() {
        SilentAfter x = Checks.behind("A50.1");
        due("d 1", x.answer(1, 1), 62);
        due("d 98", x.answer(1, 98), 61);
        due("d 99", x.answer(1, 99), 61);
        for (int d : new int[] {0, 100, -1, Integer.MIN_VALUE, Integer.MAX_VALUE}) {
            EDGES.refusedAnywhere("answer(3, " + d + ")", y -> y.answer(3, d), OUTSIDE);
        }
        for (int person : Edges.NO_PERSONS) {
            EDGES.refusedAnywhere("answer(" + person + ", 5)", y -> y.answer(person, 5), UNKNOWN);
        }
    }

    // STATE: he is not free now.
    private static void answerState() {
        due("a glass of 1", Checks.behind("A2.1").answer(0, 5), STATE);
        due("a glass of 0", Checks.behind("A2.2").answer(0, 5), 62);
        due("a glass of -1", Checks.behind("A2.3").answer(0, 5), 62);
        EDGES.refused("answer, a glass of 20", () -> Edges.busy("A!9"), x -> x.answer(0, 5), STATE);
        EDGES.refused("answer, a glass of 1", () -> Checks.write(Checks.behind("A2.1"), "B5"), x -> x.answer(0, 5), STATE);
        EDGES.refused("answer, full", () -> Edges.full("A!9"), x -> x.answer(0, 1), STATE);
    }

    // UNKNOWN, OUTSIDE, STATE: the first of these that fits.
    private static void answerOrder() {
        for (int d : new int[] {0, 100}) {
            EDGES.refused("UNKNOWN ahead of OUTSIDE", () -> Edges.busy(""), x -> x.answer(6, d), UNKNOWN);
            EDGES.refused("UNKNOWN ahead of OUTSIDE", () -> Edges.busy(""), x -> x.answer(-1, d), UNKNOWN);
            EDGES.refused("OUTSIDE ahead of STATE", () -> Edges.busy(""), x -> x.answer(0, d), OUTSIDE);
        }
        for (int d : new int[] {1, 99}) {
            EDGES.refused("STATE", () -> Edges.busy(""), x -> x.answer(0, d), STATE);
        }
    }

    private static void gift(String what, SilentAfter x, int s, int lost, int giver, int taker) {
        int time = x.told(1);
        due(what + ", lost", x.give(1, 2, s), lost);
        due(what + ", who gives", x.told(11) - 1000, giver);
        due(what + ", who takes", x.told(12) - 1000, taker);
        due(what + ", TIME stays", x.told(1), time);
    }

    /** B has 5 saved, C owes c; the BOUND is this. */
    private static SilentAfter fiveSaved(int c, int bound) {
        SilentAfter x = new SilentAfter();
        x.set(0, 5);
        x.set(1, 1);
        if (c > 0) {
            Checks.write(x, "C!" + c + ".5C!5").done();
        } else if (c > -5) {
            Checks.write(x, ".5C!" + (c + 5)).done();
        } else {
            Checks.write(x, ".5").done();
        }
        x.set(0, bound);
        return x;
    }

    // GIVEN: he has as many saved, at least. STATE: he has not so many saved.
    private static void giveSaved() {
        gift("1 of 5", fiveSaved(0, 9), 1, 0, -4, -1);
        gift("4 of 5", fiveSaved(0, 9), 4, 0, -1, -4);
        gift("5 of 5", fiveSaved(0, 9), 5, 0, 0, -5);
        gift("1 of 5 to who owes 20", fiveSaved(20, 9), 1, 0, -4, 19);
        gift("5 of 5 to who owes 1", fiveSaved(1, 9), 5, 0, 0, -4);
        due("6 of 5", fiveSaved(0, 9).give(1, 2, 6), STATE);
        due("1 of 0", new SilentAfter().give(1, 2, 1), STATE);
        due("1 of 1", Checks.behind(".1").give(1, 2, 1), 0);
        due("2 of 1", Checks.behind(".1").give(1, 2, 2), STATE);
        due("1 of a glass of 1", Checks.behind("B1").give(1, 2, 1), STATE);
        due("99 of 99", saved(99).give(1, 2, 99), 99);
        due("99 of 98", saved(98).give(1, 2, 99), STATE);
        due("98 of 98", saved(98).give(1, 2, 98), 97);
        EDGES.refused("6 of 5", () -> fiveSaved(20, 9), x -> x.give(1, 2, 6), STATE);
        EDGES.refused("99 of 5", () -> fiveSaved(20, 9), x -> x.give(1, 2, 99), STATE);
        EDGES.refused("1 of nothing", () -> Edges.busy("A1"), x -> x.give(0, 1, 1), STATE);
        EDGES.refused("1 of nothing, full", () -> Edges.full("A1"), x -> x.give(0, 1, 1), STATE);
    }

    private static SilentAfter saved(int seconds) {
        SilentAfter x = new SilentAfter();
        x.set(0, 99);
        return Edges.silent(x, seconds);
    }

    // That one's GLASS is s less, though not below 0 less BOUND (what is more is lost).
    private static void giveDownToTheBound() {
        gift("one above the bound", fiveSaved(-1, 5), 3, 0, -2, -4);
        gift("down to the bound", fiveSaved(-1, 5), 4, 0, -1, -5);
        gift("one more than the bound takes", fiveSaved(-1, 5), 5, 1, 0, -5);
        gift("from one above the bound", fiveSaved(-4, 5), 1, 0, -4, -5);
        gift("two from one above the bound", fiveSaved(-4, 5), 2, 1, -3, -5);
        gift("from the bound", fiveSaved(-5, 5), 1, 1, -4, -5);
        gift("all from the bound", fiveSaved(-5, 5), 5, 5, 0, -5);
        gift("a bound of 0, from 1", fiveSaved(1, 0), 1, 0, -4, 0);
        gift("a bound of 0, two from 1", fiveSaved(1, 0), 2, 1, -3, 0);
        gift("a bound of 0, from 0", fiveSaved(0, 0), 1, 1, -4, 0);
        gift("a bound of 99", fiveSaved(-5, 99), 5, 0, 0, -10);
    }

    // (All of it, if it stands below that already.)
    private static void giveBelowTheBound() {
        gift("one below the bound", fiveSaved(-5, 4), 1, 1, -4, -5);
        gift("one below the bound, all", fiveSaved(-5, 4), 5, 5, 0, -5);
        gift("five below the bound", fiveSaved(-5, 0), 1, 1, -4, -5);
        gift("five below the bound, all", fiveSaved(-5, 0), 5, 5, 0, -5);
        gift("who gives stands below the bound", fiveSaved(3, 0), 5, 2, 0, 0);
    }

    // Promise 11: OUTSIDE: s 1 to 99.
    private static void giveSeconds() {
        due("s 1", saved(99).give(0, 5, 1), 1);
        due("s 99", saved(99).give(5, 0, 99), 99);
        for (int s : new int[] {0, 100, -1, Integer.MIN_VALUE, Integer.MAX_VALUE}) {
            EDGES.refusedAnywhere("give(2, 3, " + s + ")", x -> x.give(2, 3, s), OUTSIDE);
            EDGES.refused("99 saved, give(2, 3, " + s + ")", () -> saved(99), x -> x.give(2, 3, s), OUTSIDE);
        }
    }

    // UNKNOWN, also to himself.
    private static void givePersons() {
        for (int person = 0; person <= 5; person++) {
            int who = person;
            EDGES.refusedAnywhere("give to himself, " + who, x -> x.give(who, who, 1), UNKNOWN);
            for (int other = 0; other <= 5; other++) {
                if (other != person) {
                    SilentAfter x = Checks.behind(".2");
                    due("give(" + person + ", " + other + ", 2)", x.give(person, other, 2), 0);
                    due("who gives", x.told(10 + person), 1000);
                    due("who takes", x.told(10 + other), 996);
                }
            }
        }
        for (int nobody : Edges.NO_PERSONS) {
            EDGES.refusedAnywhere("give(" + nobody + ", 2, 1)", x -> x.give(nobody, 2, 1), UNKNOWN);
            EDGES.refusedAnywhere("give(2, " + nobody + ", 1)", x -> x.give(2, nobody, 1), UNKNOWN);
            EDGES.refusedAnywhere("give(" + nobody + ", " + nobody + ", 1)", x -> x.give(nobody, nobody, 1), UNKNOWN);
        }
    }

    // UNKNOWN, OUTSIDE, STATE: the first of these that fits.
    private static void giveOrder() {
        for (int s : new int[] {0, 100}) {
            EDGES.refused("UNKNOWN ahead of OUTSIDE", () -> Edges.busy(""), x -> x.give(6, 2, s), UNKNOWN);
            EDGES.refused("UNKNOWN ahead of OUTSIDE", () -> Edges.busy(""), x -> x.give(2, -1, s), UNKNOWN);
            EDGES.refused("to himself ahead of OUTSIDE", () -> Edges.busy(""), x -> x.give(2, 2, s), UNKNOWN);
            EDGES.refused("OUTSIDE ahead of STATE", () -> Edges.busy(""), x -> x.give(0, 2, s), OUTSIDE);
        }
        EDGES.refused("to nobody, ahead of STATE", () -> Edges.busy(""), x -> x.give(0, 6, 99), UNKNOWN);
        EDGES.refused("to himself, ahead of STATE", () -> Edges.busy(""), x -> x.give(0, 0, 99), UNKNOWN);
    }
}
