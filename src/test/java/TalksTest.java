/** Promises 12 to 17. */
public final class TalksTest {
    private static final Checks CHECKS = new Checks("promises 12 to 17");

    private static void due(String call, long got, long want) {
        CHECKS.due(call, got, want);
    }

    public static void main(String[] args) {
        promise12();
        promise13();
        promise14();
        promise15();
        promise16();
        promise17();
        CHECKS.end();
    }

    private static void promise12() {
        SilentAfter x = new SilentAfter();
        due("12: behind itself", x.saying(0, 5, 0), SilentAfter.UNKNOWN);
        due("12: behind -2", x.saying(0, 5, -2), SilentAfter.UNKNOWN);
        due("12: nobody", x.saying(6, 5, -1), SilentAfter.UNKNOWN);
        due("12: nobody", x.saying(-1, 5, -1), SilentAfter.UNKNOWN);
        due("12: d 0", x.saying(0, 0, -1), SilentAfter.OUTSIDE);
        due("12: d 100", x.saying(0, 100, -1), SilentAfter.OUTSIDE);
        due("12: UNKNOWN comes ahead of OUTSIDE", x.saying(0, 0, 0), SilentAfter.UNKNOWN);
        due("12: none is there", x.told(4), 0);
        due("12: the first", x.saying(0, 1, -1), 1);
        due("12: behind one that is not there", x.saying(0, 1, 1), SilentAfter.UNKNOWN);
        due("12: behind the first", x.saying(5, 99, 0), 2);
        for (int i = 3; i <= 7; i++) {
            due("12: number " + i, x.saying(i % 6, i, i - 2), i);
        }
        due("12: full", x.saying(0, 1, -1), SilentAfter.FULL);
        due("12: OUTSIDE comes ahead of FULL", x.saying(0, 0, -1), SilentAfter.OUTSIDE);
        due("12: UNKNOWN comes ahead of FULL", x.saying(0, 1, 7), SilentAfter.UNKNOWN);
        due("12: told", x.told(4), 7);
    }

    private static void promise13() {
        SilentAfter x = new SilentAfter();
        due("13: drop() of none", x.drop(), 0);
        x.saying(0, 9, -1);
        x.saying(0, 9, 0);
        due("13: drop()", x.drop(), 2);
        due("13: none is left", x.told(4), 0);
        due("13: drop() again", x.drop(), 0);
        due("13: none to be behind", x.saying(0, 9, 0), SilentAfter.UNKNOWN);
        due("13: a new first one", x.saying(1, 4, -1), 1);
        due("13: a new talk", x.soonest(-1), 4);
    }

    private static void order(String name, SilentAfter x, int seconds, int silence, int... sayings) {
        due("14: seconds, " + name, x.soonest(-1), seconds);
        due("14: silence, " + name, x.soonest(-2), silence);
        for (int i = 0; i < sayings.length; i++) {
            due("14: saying " + i + ", " + name, x.soonest(i), sayings[i]);
        }
        due("14: no more, " + name, x.soonest(sayings.length), SilentAfter.NONE);
    }

    private static void promise14() {
        SilentAfter x = new SilentAfter();
        order("no talk", x, 0, 0);
        x.saying(0, 5, -1);
        x.saying(0, 5, -1);
        order("twice A", x, 15, 5, 0, 1);
        x.saying(1, 5, -1);
        String before = Checks.everything(x);
        order("B between", x, 15, 0, 0, 2, 1);
        CHECKS.unchanged("14: soonest", x, before);
        due("14: soonest(-3)", x.soonest(-3), SilentAfter.NONE);
        due("14: soonest(MIN)", x.soonest(Integer.MIN_VALUE), SilentAfter.NONE);
        due("14: soonest(MAX)", x.soonest(Integer.MAX_VALUE), SilentAfter.NONE);
        Checks.write(x, "A20").done();
        order("behind A20", x, 35, 20, 0, 2, 1);

        SilentAfter y = new SilentAfter();
        y.saying(0, 50, -1);
        y.saying(0, 1, -1);
        order("the short one first", y, 52, 1, 1, 0);
        y.drop();
        y.saying(1, 9, -1);
        y.saying(0, 3, -1);
        y.saying(0, 3, 0);
        order("kept behind another", y, 15, 0, 0, 1, 2);

        SilentAfter z = new SilentAfter();
        z.saying(0, 10, -1);
        z.saying(1, 10, -1);
        z.saying(0, 10, 1);
        z.saying(1, 10, 2);
        order("a chain", z, 40, 0, 0, 1, 2, 3);
        z.drop();
        z.saying(0, 7, -1);
        z.saying(0, 7, 0);
        z.saying(0, 7, 0);
        z.saying(0, 7, 0);
        z.saying(0, 7, 0);
        z.saying(0, 7, 0);
        z.saying(0, 7, 0);
        order("seven times A", z, 91, 42, 0, 1, 2, 3, 4, 5, 6);
    }

    private static void promise15() {
        SilentAfter x = new SilentAfter();
        due("15: no talk", x.whom(1, 0), 0);
        due("15: no talk, seconds", x.whom(99, 1), 0);
        x.saying(3, 20, -1);
        x.saying(3, 20, -1);
        String before = Checks.everything(x);
        due("15: to D", x.whom(5, 0), 3);
        due("15: seconds", x.whom(5, 1), 55);
        due("15: not below the bound", x.whom(99, 1), 51);
        x.set(0, 99);
        due("15: a lower bound", x.whom(99, 1), 40);
        due("15: exactly", x.whom(20, 1), 40);
        due("15: a little less", x.whom(19, 1), 41);
        x.set(0, 9);
        CHECKS.unchanged("15: whom", x, before);
        due("15: whom(0, 0)", x.whom(0, 0), SilentAfter.OUTSIDE);
        due("15: whom(100, 0)", x.whom(100, 0), SilentAfter.OUTSIDE);
        due("15: whom(1, 2)", x.whom(1, 2), SilentAfter.OUTSIDE);
        due("15: whom(1, -1)", x.whom(1, -1), SilentAfter.OUTSIDE);
        SilentAfter y = Checks.behind(".9");
        y.set(0, 4);
        y.saying(1, 30, -1);
        y.saying(1, 30, -1);
        due("15: below the bound all is lost", y.whom(50, 0), 0);
        due("15: seconds", y.whom(50, 1), 81);
    }

    private static void quarrel(SilentAfter x, int a, int b, int t, int over, int silent) {
        due("16: " + a + " and " + b + " within " + t, x.quarrel(0, a, 1, b, t, 0), over);
        due("16: silence, " + a + " and " + b + " within " + t, x.quarrel(0, a, 1, b, t, 1), silent);
    }

    private static void promise16() {
        SilentAfter x = new SilentAfter();
        quarrel(x, 5, 5, 20, 4, 0);
        quarrel(x, 5, 5, 19, 3, 0);
        quarrel(x, 5, 2, 9, 2, 2);
        quarrel(x, 5, 2, 10, 2, 3);
        quarrel(x, 5, 2, 12, 2, 3);
        quarrel(x, 5, 2, 15, 3, 3);
        quarrel(x, 5, 5, 0, 0, 0);
        quarrel(x, 1, 1, 999, 999, 0);
        quarrel(x, 99, 99, 98, 0, 0);
        quarrel(x, 99, 99, 99, 1, 0);
        String before = Checks.everything(x);
        due("16: both are one", x.quarrel(2, 1, 2, 1, 1, 0), SilentAfter.UNKNOWN);
        due("16: nobody", x.quarrel(-1, 1, 2, 1, 1, 0), SilentAfter.UNKNOWN);
        due("16: nobody", x.quarrel(1, 1, 6, 1, 1, 0), SilentAfter.UNKNOWN);
        due("16: UNKNOWN comes first", x.quarrel(1, 0, 6, 0, -1, 9), SilentAfter.UNKNOWN);
        int[][] wrong = {{0, 1, 1, 0}, {100, 1, 1, 0}, {1, 0, 1, 0}, {1, 100, 1, 0}, {1, 1, -1, 0}, {1, 1, 1000, 0},
            {1, 1, 1, 2}, {1, 1, 1, -1}};
        for (int[] w : wrong) {
            due("16: OUTSIDE", x.quarrel(0, w[0], 1, w[1], w[2], w[3]), SilentAfter.OUTSIDE);
        }
        CHECKS.unchanged("16: quarrel", x, before);
        SilentAfter y = Checks.behind("A!20");
        quarrel(y, 5, 5, 39, 0, 39);
        quarrel(y, 5, 5, 40, 0, 40);
        quarrel(y, 5, 5, 45, 1, 40);
        quarrel(y, 5, 5, 50, 2, 40);
        due("16: B first", y.quarrel(1, 5, 0, 5, 50, 1), 35);
        due("16: B first", y.quarrel(1, 5, 0, 5, 50, 0), 3);
    }

    private static void longest(SilentAfter x, int person, int t, int d, int seconds) {
        due("17: d, " + person + " within " + t, x.length(person, t, 0), d);
        due("17: seconds, " + person + " within " + t, x.length(person, t, 1), seconds);
    }

    private static void promise17() {
        SilentAfter x = new SilentAfter();
        longest(x, 0, 0, SilentAfter.NONE, 0);
        longest(x, 0, 1, 1, 1);
        longest(x, 0, 99, 99, 99);
        longest(x, 0, 100, 99, 99);
        longest(x, 0, 999, 90, 540);
        longest(x, 0, 297, 99, 198);
        String before = Checks.everything(x);
        due("17: nobody", x.length(6, 1, 0), SilentAfter.UNKNOWN);
        due("17: UNKNOWN comes first", x.length(-1, -1, -1), SilentAfter.UNKNOWN);
        due("17: t -1", x.length(0, -1, 0), SilentAfter.OUTSIDE);
        due("17: t 1000", x.length(0, 1000, 0), SilentAfter.OUTSIDE);
        due("17: what 2", x.length(0, 1, 2), SilentAfter.OUTSIDE);
        due("17: what -1", x.length(0, 1, -1), SilentAfter.OUTSIDE);
        CHECKS.unchanged("17: length", x, before);
        SilentAfter y = Checks.behind("A!20");
        longest(y, 0, 40, SilentAfter.NONE, 0);
        longest(y, 0, 41, 1, 1);
        longest(y, 0, 50, 10, 10);
        longest(y, 1, 20, 20, 20);
        // B has saved 9: he says 9 and at once 9 more.
        longest(y, 1, 18, 9, 18);
        longest(y, 1, 10, 1, 10);
        longest(y, 1, 15, 15, 15);
    }
}
