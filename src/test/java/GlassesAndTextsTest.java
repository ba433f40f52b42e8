/** Promises 1 to 7. */
public final class GlassesAndTextsTest {
    private static final Checks CHECKS = new Checks("promises 1 to 7");

    private static void due(String call, long got, long want) {
        CHECKS.due(call, got, want);
    }

    public static void main(String[] args) {
        constants();
        promise1();
        promise2();
        promise3();
        promise4();
        promise5();
        promise6();
        promise7();
        partsOfTexts();
        boundsAndFires();
        CHECKS.end();
    }

    private static void constants() {
        due("NONE", SilentAfter.NONE, -6);
        due("UNKNOWN", SilentAfter.UNKNOWN, -1);
        due("OUTSIDE", SilentAfter.OUTSIDE, -2);
        due("STATE", SilentAfter.STATE, -3);
        due("FULL", SilentAfter.FULL, -4);
        due("NO", SilentAfter.NO, -5);
        due("LOST", SilentAfter.LOST, -1000000000000000000L);
    }

    private static void promise1() {
        SilentAfter x = new SilentAfter();
        for (int person = 0; person < 6; person++) {
            due("1: glass " + person, x.told(10 + person), 1000);
            due("1: free(" + person + ")", x.free(person), 0);
        }
        due("1: signs", x.told(0), 0);
        due("1: TIME", x.told(1), 0);
        due("1: BOUND", x.told(2), 9);
        due("1: FIRE", x.told(3), 2);
        due("1: SAYINGS", x.told(4), 0);
        due("1: SIGHTS", x.told(5), 0);
        SilentAfter other = Checks.behind("A5");
        due("1: objects are apart", x.told(10), 1000);
        due("1: objects are apart", other.told(10), 1005);
    }

    private static void promise2() {
        SilentAfter x = new SilentAfter();
        due("2: set(0, 0)", x.set(0, 0), 9);
        due("2: set(0, 99)", x.set(0, 99), 0);
        due("2: set(0, 40)", x.set(0, 40), 99);
        due("2: set(1, 1)", x.set(1, 1), 2);
        due("2: set(1, 4)", x.set(1, 4), 1);
        String before = Checks.everything(x);
        int[][] wrong = {{0, -1}, {0, 100}, {1, 0}, {1, 5}, {2, 1}, {-1, 1}, {0, Integer.MIN_VALUE},
            {0, Integer.MAX_VALUE}, {1, Integer.MIN_VALUE}, {Integer.MAX_VALUE, 1}, {Integer.MIN_VALUE, 1}};
        for (int[] w : wrong) {
            due("2: set(" + w[0] + ", " + w[1] + ")", x.set(w[0], w[1]), SilentAfter.OUTSIDE);
        }
        CHECKS.unchanged("2: refused set", x, before);
        due("2: BOUND", x.told(2), 40);
        due("2: FIRE", x.told(3), 4);
    }

    private static void promise3() {
        SilentAfter x = new SilentAfter();
        due("3: say(32)", x.say(32), SilentAfter.OUTSIDE);
        due("3: say(127)", x.say(127), SilentAfter.OUTSIDE);
        due("3: say(-65)", x.say(-65), SilentAfter.OUTSIDE);
        due("3: say(33)", x.say(33), 1);
        due("3: say(126)", x.say(126), 2);
        for (int i = 3; i <= 60; i++) {
            due("3: say, number " + i, x.say(','), i);
        }
        due("3: a full pad", x.say(','), SilentAfter.FULL);
        due("3: OUTSIDE comes ahead of FULL", x.say(32), SilentAfter.OUTSIDE);
        due("3: signs", x.told(0), 60);
    }

    private static void promise4() {
        SilentAfter x = Checks.write(new SilentAfter(), "A5.3");
        due("4: wipe()", x.wipe(), 4);
        due("4: wipe() again", x.wipe(), 0);
        due("4: signs", x.told(0), 0);
        due("4: say behind it", x.say('B'), 1);
        due("4: fault behind it", x.fault(), 1);
        Checks.write(x, ",".repeat(60));
        due("4: wipe() of a full pad", x.wipe(), 60);
        due("4: say behind it", x.say('B'), 1);
    }

    private static void fault(String text, int want) {
        due("5: fault of \"" + text + "\"", Checks.write(new SilentAfter(), text).fault(), want);
    }

    private static void promise5() {
        String[] faultless = {"", "A1", "F99", "A10", "A!1", "A!99", "?5", "?!50", ".1", ".99", ",", ",,", "A5B5", "A55B5",
            "A5,.3B!20,", "?1?2?!3A4", "A1".repeat(30), ",".repeat(60)};
        for (String text : faultless) {
            fault(text, SilentAfter.NONE);
        }
        fault("A", 1);
        fault("A!", 2);
        fault(".", 1);
        fault("?", 1);
        fault("A5B", 3);
        fault("A0", 1);
        fault("A05", 1);
        fault("A!0", 2);
        fault(".0", 1);
        fault("A100", 3);
        fault("A!100", 4);
        fault(".700", 3);
        fault("A!!5", 2);
        fault("A5!", 2);
        fault(".!5", 1);
        fault(",5", 1);
        fault(",!", 1);
        fault("G1", 0);
        fault("@1", 0);
        fault("a5", 0);
        fault("5", 0);
        fault("!5", 0);
        fault("A,", 1);
        fault("AA5", 1);
        fault("A?5", 1);
        fault("A.5", 1);
        fault("A5~", 2);
        fault("A:", 1);
        fault("A5:", 2);
        fault("A/", 1);
        fault("?1?1?1?", 6);
        fault("?1?1?1?1", 6);
        fault("?1?1?1A1B1?1", 10);
        fault("A1".repeat(29) + "A!", 60);
        fault("A1".repeat(29) + ",A", 60);
        fault("~" + "A1".repeat(29), 0);
        SilentAfter x = Checks.write(new SilentAfter(), "A");
        due("5: fault while a part goes on", x.fault(), 1);
        x.say('7');
        due("5: fault when it is whole", x.fault(), SilentAfter.NONE);
    }

    private static void judge(String ahead, String text, int want) {
        SilentAfter x = Checks.write(Checks.behind(ahead), text);
        String before = ahead.length() + " " + x.told(1) + " " + x.told(10);
        due("6: judge of \"" + text + "\" behind \"" + ahead + "\"", x.judge(), want);
        due("6: judge of it again", x.judge(), want);
        due("6: judge changes nothing", before.equals(ahead.length() + " " + x.told(1) + " " + x.told(10)) ? 1 : 0, 1);
    }

    private static void promise6() {
        judge("", "", SilentAfter.NONE);
        judge("", "A5A5", 1);
        judge("", "A5.4A5", 2);
        judge("", "A5.5A5", SilentAfter.NONE);
        judge("", "A5B4A5", 2);
        judge("", "A5B5A5", SilentAfter.NONE);
        judge("", "A5,A5", SilentAfter.NONE);
        judge("", "A5A!5", SilentAfter.NONE);
        judge("", "A5A!5A1", 2);
        judge("", ".9A9A9", SilentAfter.NONE);
        judge("", ".9A10A9", 2);
        judge("", ",,.3B7.3B1A1", 5);
        judge("", ",,.3B7.4B1A1", SilentAfter.NONE);
        judge("A5", "A1", 0);
        judge("A5", "B5A1", SilentAfter.NONE);
        judge("A5", "A!1", SilentAfter.NONE);
        judge("", "A5A", SilentAfter.NO);
        judge("", "A5?", SilentAfter.NO);
        judge("", "A5A5?5", SilentAfter.STATE);
        judge("", "?5", SilentAfter.STATE);
    }

    private static void promise7() {
        SilentAfter x = Checks.write(new SilentAfter(), "A12.3,B!4");
        due("7: done()", x.done(), 19);
        due("7: TIME", x.told(1), 19);
        due("7: the pad is empty", x.told(0), 0);
        due("7: A", x.told(10), 996);
        due("7: B", x.told(11), 999);
        due("7: C", x.told(12), 991);
        due("7: done() of no text", x.done(), 0);
        Checks.write(x, ".7");
        due("7: done() again", x.done(), 7);
        due("7: TIME goes on", x.told(1), 26);
        String[] refused = {"A", "A5A0", "A5A5", "?5", "?5A5A5", "A5A5?", "B9C9D1C1", "?1?1?1?1"};
        int[] by = {SilentAfter.NO, SilentAfter.NO, SilentAfter.NO, SilentAfter.STATE, SilentAfter.STATE, SilentAfter.NO,
            SilentAfter.NONE, SilentAfter.NO};
        for (int i = 0; i < refused.length; i++) {
            SilentAfter y = Checks.write(Checks.behind("A3"), refused[i]);
            String before = Checks.everything(y);
            if (by[i] == SilentAfter.NONE) {
                due("7: done() of " + refused[i], y.done(), 20);
                continue;
            }
            due("7: done() of " + refused[i], y.done(), by[i]);
            CHECKS.unchanged("7: refused done()", y, before);
        }
    }

    private static void glasses(String text, int... want) {
        SilentAfter x = Checks.behind(text);
        for (int person = 0; person < want.length; person++) {
            due("glass " + person + " behind " + text, x.told(10 + person) - 1000, want[person]);
        }
    }

    private static void partsOfTexts() {
        glasses("A5", 5, -5, -5, -5, -5, -5);
        glasses("A12", 12, -9, -9, -9, -9, -9);
        glasses("F7", -7, -7, -7, -7, -7, 7);
        glasses("A!5", 10, -5, -5, -5, -5, -5);
        glasses("A!5A!2", 14, -7, -7);
        glasses("A5B5", 0, 0, -9);
        glasses("A5.2", 3, -7, -7);
        glasses("A5.99", -9, -9, -9);
        glasses("A5,", 0, -5, -5);
        glasses(".3A9", 6, -9, -9);
        glasses(".9A3A3A3", 0, -9);
        glasses("A!50,.1", -1, -9);
    }

    private static void boundsAndFires() {
        SilentAfter x = Checks.behind(".8");
        x.set(0, 5);
        Checks.write(x, "A2.1").done();
        due("below the bound nothing is taken, A", x.told(10), 994);
        due("below the bound nothing is taken, B", x.told(11), 992);
        Checks.write(x, "A3").done();
        due("A speaks up to the bound", x.told(10), 997);
        Checks.write(x, ".4").done();
        due("A is silent down to the bound", x.told(10), 995);
        x.set(0, 0);
        Checks.write(x, "B10.5").done();
        due("a bound of 0: B", x.told(11), 1000);
        due("a bound of 0: A", x.told(10), 995);
        x.set(0, 99);
        Checks.write(x, ".99.9").done();
        due("a bound of 99", x.told(10), 901);
        x.set(1, 1);
        Checks.write(x, "C!9").done();
        due("a fire of 1", x.told(12), 910);
        x.set(1, 4);
        Checks.write(x, "C!9").done();
        due("a fire of 4", x.told(12), 946);
    }
}
