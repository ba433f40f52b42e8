/** Boundaries in the head Terms, in part 1 and in promises 1 to 7. */
public final class EdgesOfTextsTest {
    private static final Edges EDGES = new Edges("boundaries, promises 1 to 7");
    private static final int NONE = SilentAfter.NONE, OUTSIDE = SilentAfter.OUTSIDE, STATE = SilentAfter.STATE;
    private static final int FULL = SilentAfter.FULL, NO = SilentAfter.NO;

    private static void due(String what, long got, long want) {
        EDGES.due(what, got, want);
    }

    public static void main(String[] args) {
        allIsZeroAtFirst();
        boundIs0To99();
        fireIs1To4();
        whichIs0Or1();
        silenceEndsAtTheBound();
        belowTheBoundNothingIsTaken();
        sayingsBeginAt0OrLess();
        glassIsDMoreAtTheEnd();
        fireMayAlways();
        nightsEndWhatIsAbove0();
        padTakes60Signs();
        codesAre33To126();
        wipeOfEmptyAndFull();
        lettersAreAToF();
        threeAskedAtMost();
        oneFireSign();
        numbersAre1To99();
        faultAtTheEnd();
        judgedFirstPart();
        judgeRefusals();
        doneTakesAndEmpties();
        doneRefusals();
        fiveHundredAndTwelveCalls();
        EDGES.end();
    }

    /** All the glasses, A first, are just these. */
    private static void glasses(String what, SilentAfter x, int... want) {
        for (int person = 0; person < want.length; person++) {
            due(what + ", glass " + person, x.told(10 + person) - 1000, want[person]);
        }
    }

    private static SilentAfter now(SilentAfter x, String text) {
        int signs = Checks.write(x, text).told(0);
        due("all of " + text + " is on the pad", signs, text.length());
        due(text + " is done", x.done() >= 0 ? 1 : 0, 1);
        return x;
    }

    private static void fault(String text, int want) {
        due("fault of \"" + text + "\"", Checks.write(new SilentAfter(), text).fault(), want);
    }

    private static void judged(SilentAfter x, String text, int want) {
        due("judge of \"" + text + "\"", Checks.write(x, text).judge(), want);
    }

    // Promise 1: all GLASSES are 0. Part 1: TIME 0, BOUND 9, FIRE 2 at first.
    private static void allIsZeroAtFirst() {
        SilentAfter x = new SilentAfter();
        int[] want = {0, 0, 9, 2, 0, 0};
        for (int what = 0; what < want.length; what++) {
            due("told(" + what + ") at first", x.told(what), want[what]);
        }
        glasses("at first", x, 0, 0, 0, 0, 0, 0);
    }

    // BOUND (0 to 99; 9 at first). Promise 2: which it was. OUTSIDE.
    private static void boundIs0To99() {
        SilentAfter x = new SilentAfter();
        due("the first BOUND", x.set(0, 0), 9);
        due("BOUND 0 is taken", x.told(2), 0);
        due("BOUND 1", x.set(0, 1), 0);
        due("BOUND 98", x.set(0, 98), 1);
        due("BOUND 99", x.set(0, 99), 98);
        due("BOUND 99 is taken", x.told(2), 99);
        due("FIRE stays", x.told(3), 2);
        for (int v : new int[] {-1, 100, Integer.MIN_VALUE, Integer.MAX_VALUE}) {
            EDGES.refusedAnywhere("set(0, " + v + ")", y -> y.set(0, v), OUTSIDE);
        }
    }

    // FIRE (1 to 4; 2 at first).
    private static void fireIs1To4() {
        SilentAfter x = new SilentAfter();
        due("the first FIRE", x.set(1, 1), 2);
        due("FIRE 1 is taken", x.told(3), 1);
        due("FIRE 3", x.set(1, 3), 1);
        due("FIRE 4", x.set(1, 4), 3);
        due("FIRE 4 is taken", x.told(3), 4);
        due("BOUND stays", x.told(2), 9);
        for (int v : new int[] {0, 5, -1, Integer.MIN_VALUE, Integer.MAX_VALUE}) {
            EDGES.refusedAnywhere("set(1, " + v + ")", y -> y.set(1, v), OUTSIDE);
        }
    }

    // Promise 2: BOUND (which = 0), FIRE (1). OUTSIDE.
    private static void whichIs0Or1() {
        for (int which : new int[] {-1, 2, Integer.MIN_VALUE, Integer.MAX_VALUE}) {
            EDGES.refusedAnywhere("set(" + which + ", 1)", y -> y.set(which, 1), OUTSIDE);
            EDGES.refusedAnywhere("set(" + which + ", 4)", y -> y.set(which, 4), OUTSIDE);
        }
    }

    // BOUND: no GLASS goes below 0 less BOUND by silence.
    private static void silenceEndsAtTheBound() {
        glasses("8 of silence", now(new SilentAfter(), ".8"), -8, -8, -8, -8, -8, -8);
        glasses("9 of silence", now(new SilentAfter(), ".9"), -9, -9, -9, -9, -9, -9);
        glasses("10 of silence", now(new SilentAfter(), ".10"), -9, -9, -9, -9, -9, -9);
        glasses("9 and 1 of silence", now(new SilentAfter(), ".9.1"), -9, -9, -9, -9, -9, -9);
        glasses("another one speaks 9", now(new SilentAfter(), "F9"), -9, -9, -9, -9, -9, 9);
        glasses("another one speaks 10", now(new SilentAfter(), "F10"), -9, -9, -9, -9, -9, 10);
        glasses("fire for 10", now(new SilentAfter(), "F!10"), -9, -9, -9, -9, -9, 20);
        int[] bounds = {0, 1, 98, 99};
        for (int bound : bounds) {
            SilentAfter x = new SilentAfter();
            x.set(0, bound);
            if (bound > 0) {
                glasses("just the bound of " + bound, now(x, "." + bound), -bound, -bound);
            }
            glasses("one more than the bound of " + bound, now(x, ".1"), -bound, -bound);
            glasses("far more than the bound of " + bound, now(x, ".99"), -bound, -bound);
        }
        SilentAfter y = new SilentAfter();
        y.set(0, 0);
        glasses("a bound of 0, B from 1", now(y, "B1A2"), 2, 0, 0);
        SilentAfter z = new SilentAfter();
        z.set(0, 99);
        glasses("98 of 99", now(z, ".98"), -98, -98);
    }

    // ... it may stand below, if BOUND was told since: then nothing is taken.
    private static void belowTheBoundNothingIsTaken() {
        SilentAfter x = Edges.silent(new SilentAfter(), 8);
        x.set(0, 9);
        glasses("one above the bound", now(x, ".1"), -9, -9);
        x.set(0, 8);
        glasses("one below the bound", now(x, ".1"), -9, -9);
        x.set(0, 0);
        glasses("nine below the bound", now(x, ".99"), -9, -9);
        glasses("below the bound, another one speaks", now(x, "A1"), -8, -9);
        glasses("below the bound, fire", now(x, "A!1"), -6, -9);
        glasses("below the bound, a night", now(x, ","), -6, -9);
        x.set(0, 7);
        glasses("one above it and two below", now(x, ".1"), -7, -9);
        glasses("at it and two below", now(x, ".1"), -7, -9);
        x.set(0, 10);
        glasses("a lower bound again", now(x, ".1"), -8, -10);
    }

    // A SAYING: he may begin it only if his GLASS is 0 or less.
    private static void sayingsBeginAt0OrLess() {
        judged(new SilentAfter(), "A1", NONE);
        judged(Checks.behind("A1"), "A1", 0);
        judged(Checks.behind("A1.1"), "A1", NONE);
        judged(Checks.behind(".1"), "A1", NONE);
        judged(Checks.behind("A5.4"), "A99", 0);
        judged(Checks.behind("A5.5"), "A99", NONE);
        judged(Checks.behind("A5.6"), "A99", NONE);
        judged(new SilentAfter(), "A5B4A1", 2);
        judged(new SilentAfter(), "A5B5A1", NONE);
        judged(new SilentAfter(), "A5B!4A1", 2);
        judged(new SilentAfter(), "A5B!5A1", NONE);
        judged(new SilentAfter(), ".9A9A1", NONE);
        judged(new SilentAfter(), ".9A10A1", 2);
        judged(new SilentAfter(), ".8A9A1", 2);
        judged(new SilentAfter(), "A!5.9A1", 2);
        judged(new SilentAfter(), "A!5.10A1", NONE);
        for (char who = 'A'; who <= 'F'; who++) {
            due("a glass of 1, " + who, Checks.write(Checks.behind(who + "1"), who + "1").done(), NO);
            due("a glass of 0, " + who, Checks.write(Checks.behind(who + "1.1"), who + "1").done(), 1);
        }
    }

    // At its end his GLASS is d more than at its beginning (d 1 to 99), with FIRE FIRE times d.
    private static void glassIsDMoreAtTheEnd() {
        glasses("A1", now(new SilentAfter(), "A1"), 1, -1, -1, -1, -1, -1);
        glasses("A99", now(new SilentAfter(), "A99"), 99, -9, -9, -9, -9, -9);
        glasses("saved 9, A8", now(new SilentAfter(), ".9A8"), -1, -9);
        glasses("saved 9, A9", now(new SilentAfter(), ".9A9"), 0, -9);
        glasses("saved 9, A10", now(new SilentAfter(), ".9A10"), 1, -9);
        for (int fire = 1; fire <= 4; fire++) {
            SilentAfter x = new SilentAfter();
            x.set(1, fire);
            glasses("A!1 with FIRE " + fire, now(x, "A!1"), fire, -1);
            glasses("A!99 with FIRE " + fire, now(x, "A!99"), 100 * fire, -9);
            due("TIME", x.told(1), 100);
        }
    }

    // FIRE ... likewise, but he may always.
    private static void fireMayAlways() {
        judged(Checks.behind("A1"), "A!1", NONE);
        judged(Checks.behind("A99"), "A!99", NONE);
        judged(new SilentAfter(), "A!1A!1A!1", NONE);
        judged(new SilentAfter(), "A!1A!1A1", 2);
        SilentAfter x = new SilentAfter();
        x.set(1, 4);
        due("the longest fires", Checks.write(x, "A!99".repeat(15)).done(), 1485);
        glasses("the longest fires", x, 5940, -9);
        due("the longest fires once more", Checks.write(x, "A!99".repeat(15)).done(), 1485);
        glasses("the longest fires once more", x, 11880, -9);
        due("TIME behind them", x.told(1), 2970);
        due("WAIT behind them", x.free(0), 11880);
    }

    // A night: each GLASS above 0 becomes 0; no TIME goes by.
    private static void nightsEndWhatIsAbove0() {
        glasses("1 above 0", now(new SilentAfter(), "A1,"), 0, -1, -1, -1, -1, -1);
        glasses("0", now(new SilentAfter(), ","), 0, 0, 0, 0, 0, 0);
        glasses("1 below 0", now(new SilentAfter(), ".1,"), -1, -1, -1, -1, -1, -1);
        glasses("the bound", now(new SilentAfter(), ".9,"), -9, -9);
        glasses("all at once", now(new SilentAfter(), "A!50B!50,"), 0, 0, -9, -9, -9, -9);
        glasses("two nights", now(new SilentAfter(), "F99,,"), -9, -9, -9, -9, -9, 0);
        due("no TIME", Checks.behind(",".repeat(60)).told(1), 0);
        due("no TIME more", Checks.behind("A7,,,.1").told(1), 8);
        judged(new SilentAfter(), "A1,A1", NONE);
    }

    // 60 SIGNS at most. Promise 3: a sign more: how many. FULL.
    private static void padTakes60Signs() {
        SilentAfter x = new SilentAfter();
        for (int i = 1; i <= 60; i++) {
            due("sign " + i, x.say('A' + i % 2), i);
        }
        due("60 signs", x.told(0), 60);
        due("the 61st", x.say('A'), FULL);
        due("the 61st once more", x.say('A'), FULL);
        due("60 signs still", x.told(0), 60);
        due("59 and one", Checks.write(new SilentAfter(), ",".repeat(59)).say('.'), 60);
        due("the last one counts", Checks.write(new SilentAfter(), ",".repeat(59) + ".").fault(), 60);
        EDGES.refused("the 61st sign", () -> Edges.full("A9"), y -> y.say('9'), FULL);
        EDGES.refused("the 61st sign, behind a fault", () -> Edges.full("A"), y -> y.say('9'), FULL);
        EDGES.refused("the 61st sign, code 33", () -> Edges.full("A9"), y -> y.say(33), FULL);
        EDGES.refused("the 61st sign, code 126", () -> Edges.full("A9"), y -> y.say(126), FULL);
        x.wipe();
        due("room again", x.say('A'), 1);
    }

    // Codes 33 to 126. OUTSIDE, which comes ahead of FULL.
    private static void codesAre33To126() {
        SilentAfter x = new SilentAfter();
        due("code 33", x.say(33), 1);
        due("code 126", x.say(126), 2);
        due("both are there", x.told(0), 2);
        for (int code : new int[] {32, 127, 0, -1, 128, 65 + 256, 65 + 65536, Integer.MIN_VALUE, Integer.MAX_VALUE}) {
            EDGES.refusedAnywhere("say(" + code + ")", y -> y.say(code), OUTSIDE);
        }
    }

    // Promise 4: signs go: how many there were.
    private static void wipeOfEmptyAndFull() {
        SilentAfter x = new SilentAfter();
        due("wipe of none", x.wipe(), 0);
        x.say('A');
        due("wipe of one", x.wipe(), 1);
        due("wipe of none again", x.wipe(), 0);
        Checks.write(x, "A1".repeat(30));
        x.say('A');
        due("wipe of 60", x.wipe(), 60);
        due("no signs", x.told(0), 0);
        due("no fault", x.fault(), NONE);
    }

    // A letter A to F.
    private static void lettersAreAToF() {
        for (int code = 33; code <= 126; code++) {
            String sign = String.valueOf((char) code);
            boolean person = code >= 'A' && code <= 'F';
            boolean begins = person || code == '?' || code == '.';
            fault(sign + "1", begins ? NONE : code == ',' ? 1 : 0);
            fault("B2" + sign, code == ',' || code >= '0' && code <= '9' ? NONE : begins ? 3 : 2);
            fault("B23" + sign, code == ',' ? NONE : begins ? 4 : 3);
            fault(".2" + sign, code == ',' || code >= '0' && code <= '9' ? NONE : begins ? 3 : 2);
            fault("," + sign, code == ',' ? NONE : begins ? 2 : 1);
            fault("B" + sign + "1", code == '!' || code >= '1' && code <= '9' ? NONE : 1);
            fault("B!" + sign, code >= '1' && code <= '9' ? NONE : 2);
            fault("." + sign, code >= '1' && code <= '9' ? NONE : 1);
        }
        for (int person = 0; person < 6; person++) {
            due("who " + person + " is", Checks.behind((char) ('A' + person) + "3").told(10 + person), 1003);
        }
    }

    // ? (not told; 3 at most).
    private static void threeAskedAtMost() {
        fault("?1", NONE);
        fault("?1?1", NONE);
        fault("?1?1?1", NONE);
        fault("?1?1?1?1", 6);
        fault("?1?1?1?", 6);
        fault("?1?1?1??", 6);
        fault("?!1?!1?!1", NONE);
        fault("?!1?!1?!1A1,.1?!1", 14);
        fault("?1?1?", 5);
        fault("?1?1A1?1", NONE);
        fault("??1", 1);
        fault("A1".repeat(27) + "?1?1?1", NONE);
        fault("A1".repeat(26) + "?1?1?1?1", 58);
        due("three asked", Checks.write(new SilentAfter(), "?1?1?1").judge(), STATE);
        due("four asked", Checks.write(new SilentAfter(), "?1?1?1?1").judge(), NO);
    }

    // Perhaps ! (FIRE): one, behind a letter or ?.
    private static void oneFireSign() {
        fault("A!1", NONE);
        fault("?!1", NONE);
        fault("A!!1", 2);
        fault("A1!", 2);
        fault("A10!", 3);
        fault("!", 0);
        fault(".!1", 1);
        fault(",!", 1);
    }

    // One or two digits (1 to 99, the first one not 0); . and one or two such digits.
    private static void numbersAre1To99() {
        for (String ahead : new String[] {"A", "F!", "?", "?!", ".", "B1,."}) {
            int n = ahead.length();
            fault(ahead + "0", n);
            fault(ahead + "00", n);
            fault(ahead + "09", n);
            fault(ahead + "1", NONE);
            fault(ahead + "9", NONE);
            fault(ahead + "10", NONE);
            fault(ahead + "19", NONE);
            fault(ahead + "99", NONE);
            fault(ahead + "100", n + 2);
            fault(ahead + "990", n + 2);
            fault(ahead + "999", n + 2);
        }
        int[] seconds = {1, 9, 10, 11, 90, 99};
        for (int d : seconds) {
            due("seconds of A" + d, Checks.write(new SilentAfter(), "A" + d).behind(-1), d);
            due("seconds of A!" + d, Checks.write(new SilentAfter(), "A!" + d).behind(-1), d);
            due("seconds of ." + d, Checks.write(new SilentAfter(), "." + d).behind(-1), d);
        }
    }

    // THE FAULT: the place of the first sign that can not stand there; the number of signs, if more must come; NONE.
    private static void faultAtTheEnd() {
        fault("", NONE);
        String[] more = {"A", "A!", "?", "?!", ".", "B1A", "B1A!", "B1.", ",.", "B12?"};
        for (String text : more) {
            fault(text, text.length());
            fault(text + "1", NONE);
        }
        fault("G", 0);
        fault("GG", 0);
        fault("A1GA0", 2);
        fault("A1".repeat(29) + "A1", NONE);
        fault("A1".repeat(29) + "A", 59);
        fault("A1".repeat(29) + "A!", 60);
        fault("A1".repeat(29) + ",A", 60);
        fault("A1".repeat(29) + "AG", 59);
        fault("A1".repeat(29) + ",G", 59);
        fault(",".repeat(60), NONE);
        SilentAfter x = Checks.write(new SilentAfter(), "G");
        x.wipe();
        due("no fault behind wipe", x.fault(), NONE);
    }

    // JUDGED: the first PART (from 0 on) whose SAYING can not begin; NONE.
    private static void judgedFirstPart() {
        judged(new SilentAfter(), "", NONE);
        judged(new SilentAfter(), ",".repeat(60), NONE);
        judged(Checks.behind("A1"), "A1A1A1", 0);
        judged(new SilentAfter(), "A1A1A1", 1);
        judged(new SilentAfter(), "A1B1A2A1", 3);
        judged(new SilentAfter(), "A1B1B1A1B1", NONE);
        judged(new SilentAfter(), "A9,.1A!1A1", 4);
        judged(new SilentAfter(), "A1B1".repeat(15), NONE);
        judged(new SilentAfter(), "A1B1".repeat(13) + "A1A1B1A1", 27);
        judged(new SilentAfter(), "A1B1".repeat(14) + "A1A1", 29);
        SilentAfter x = new SilentAfter();
        x.set(0, 0);
        judged(x, ",".repeat(56) + "A1A1", 57);
        judged(x, ",".repeat(56) + "A1B1", NONE);
        // What was asked ahead of it does not count.
        SilentAfter y = Checks.write(new SilentAfter(), "A5B5A1");
        due("behind", y.behind(-1), 11);
        due("judge behind it", y.judge(), NONE);
        due("judge once more", y.judge(), NONE);
        Checks.write(y, "A5A1");
        due("judge", y.judge(), 1);
        due("judge once more", y.judge(), 1);
    }

    // NO: there is a FAULT; STATE: there is some ?. NO comes first.
    private static void judgeRefusals() {
        due("judge of a fault", Checks.write(new SilentAfter(), "A").judge(), NO);
        due("judge of A1 and a fault", Checks.write(new SilentAfter(), "A1A1G").judge(), NO);
        due("judge of some ?", Checks.write(new SilentAfter(), "?1").judge(), STATE);
        due("judge of some ? behind what can not be", Checks.write(new SilentAfter(), "A1A1?1").judge(), STATE);
        due("judge of ? and a fault", Checks.write(new SilentAfter(), "?1A").judge(), NO);
        due("judge of a fault and ?", Checks.write(new SilentAfter(), "A0?1").judge(), NO);
        due("judge of ? that goes on", Checks.write(new SilentAfter(), "?").judge(), NO);
        due("judge without ?", Checks.write(new SilentAfter(), "A1").judge(), NONE);
        EDGES.refused("judge of ? and a fault", () -> Edges.busy("?1A"), SilentAfter::judge, NO);
        EDGES.refused("judge of ?", () -> Edges.busy("?1"), SilentAfter::judge, STATE);
    }

    // Promise 7: it is empty then; it stays when the call is refused: seconds.
    private static void doneTakesAndEmpties() {
        SilentAfter x = new SilentAfter();
        due("done of nothing", x.done(), 0);
        due("TIME behind nothing", x.told(1), 0);
        due("done of a night", Checks.write(x, ",").done(), 0);
        due("the pad is empty", x.told(0), 0);
        due("done of one second", Checks.write(x, "A1").done(), 1);
        due("the pad is empty", x.told(0), 0);
        due("TIME", x.told(1), 1);
        due("a new first sign", x.say('B'), 1);
        SilentAfter y = new SilentAfter();
        due("the longest TEXT", Checks.write(y, ".99".repeat(20)).done(), 1980);
        due("the pad is empty", y.told(0), 0);
        due("done again takes no seconds", y.done(), 0);
        due("TIME", y.told(1), 1980);
    }

    // NO: there is a FAULT, or (without ?) a SAYING that can not begin; STATE: there is some ?. NO comes first.
    private static void doneRefusals() {
        EDGES.refused("done of a fault", () -> Edges.busy("B1A0"), SilentAfter::done, NO);
        EDGES.refused("done of what must go on", () -> Edges.busy("B1A"), SilentAfter::done, NO);
        EDGES.refused("done of some ?", () -> Edges.busy("B1?1"), SilentAfter::done, STATE);
        EDGES.refused("done of what can not begin", () -> Edges.busy("B1A1"), SilentAfter::done, NO);
        EDGES.refused("done of what can not begin at its end", () -> Edges.busy("C1B9D1.99.99A!99A1"),
                SilentAfter::done, NO);
        EDGES.refused("done, a fault and ?", () -> Edges.busy("?1A"), SilentAfter::done, NO);
        EDGES.refused("done, four ?", () -> Edges.busy("?1?1?1?1"), SilentAfter::done, NO);
        EDGES.refused("done, ? and what can not begin", () -> Edges.busy("A1?1"), SilentAfter::done, STATE);
        EDGES.refused("done, full, a fault", () -> Edges.full("A"), SilentAfter::done, NO);
        EDGES.refused("done, full, what can not begin", () -> Edges.full("C99C1"), SilentAfter::done, NO);
        SilentAfter x = Checks.write(Checks.behind("A2"), "A1");
        due("refused", x.done(), NO);
        due("the sign behind it", x.say('1'), 3);
        due("the pad stays", x.wipe(), 3);
        due("A's glass at 1", Checks.write(x, ".1A1").done(), NO);
        due("A's glass at 0", Checks.write(x, ".2A1").done(), 3);
    }

    // An object is used for at most 512 calls: the last of them answers as the first.
    private static void fiveHundredAndTwelveCalls() {
        SilentAfter x = new SilentAfter();
        for (int round = 0; round < 127; round++) {
            due("say, round " + round, x.say('.'), 1);
            due("say, round " + round, x.say('9'), 2);
            due("done, round " + round, x.done(), 9);
            due("TIME, round " + round, x.told(1), 9 * round + 9);
        }
        due("call 509", x.say('.'), 1);
        due("call 510", x.say('9'), 2);
        due("call 511", x.done(), 9);
        due("call 512", x.told(1), 1152);
    }
}
