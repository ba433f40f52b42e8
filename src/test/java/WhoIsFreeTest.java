/** Promises 8 to 11. */
public final class WhoIsFreeTest {
    private static final Checks CHECKS = new Checks("promises 8 to 11");

    private static void due(String call, long got, long want) {
        CHECKS.due(call, got, want);
    }

    public static void main(String[] args) {
        promise8();
        promise9();
        promise10();
        promise11();
        CHECKS.end();
    }

    private static void promise8() {
        SilentAfter x = Checks.write(Checks.behind("A5"), "B5.2A!3,");
        String before = Checks.everything(x);
        due("8: seconds of the text, not TIME", x.behind(-1), 10);
        due("8: A", x.behind(0), 1000);
        due("8: B", x.behind(1), 995);
        due("8: C", x.behind(2), 991);
        due("8: F", x.behind(5), 991);
        CHECKS.unchanged("8: behind", x, before);
        for (int person : new int[] {-2, 6, Integer.MIN_VALUE, Integer.MAX_VALUE}) {
            due("8: behind(" + person + ")", x.behind(person), SilentAfter.UNKNOWN);
        }
        Checks.write(x, "A");
        due("8: a fault", x.behind(0), SilentAfter.NO);
        due("8: a fault", x.behind(-1), SilentAfter.NO);
        due("8: UNKNOWN comes ahead of NO", x.behind(6), SilentAfter.UNKNOWN);
        Checks.write(x, "A1");
        due("8: a saying that can not begin", x.behind(0), SilentAfter.NO);
        Checks.write(x, "A1?1");
        due("8: some ?", x.behind(-1), SilentAfter.STATE);
        due("8: UNKNOWN comes ahead of STATE", x.behind(-2), SilentAfter.UNKNOWN);
        x.wipe();
        due("8: no text", x.behind(0), 1005);
        due("8: no text, seconds", x.behind(-1), 0);
    }

    private static void promise9() {
        SilentAfter x = Checks.behind("A!20B5");
        due("9: A", x.free(0), 35);
        due("9: B", x.free(1), 0);
        due("9: C", x.free(2), 0);
        due("9: free(6)", x.free(6), SilentAfter.UNKNOWN);
        due("9: free(-1)", x.free(-1), SilentAfter.UNKNOWN);
        Checks.write(x, ".34").done();
        due("9: A, later", x.free(0), 1);
        Checks.write(x, ".1").done();
        due("9: A, free", x.free(0), 0);
    }

    private static void promise10() {
        SilentAfter x = new SilentAfter();
        due("10: answer of a new one", x.answer(2, 1), 63 - 4);
        x = Checks.behind("A5");
        String before = Checks.everything(x);
        due("10: A is free when B has said 5", x.answer(1, 5), 63);
        due("10: A is not when B has said 4", x.answer(1, 4), 62);
        due("10: B is not when he has said 6", x.answer(1, 6), 61);
        due("10: F", x.answer(5, 99), 31);
        CHECKS.unchanged("10: answer", x, before);
        due("10: A is not free", x.answer(0, 5), SilentAfter.STATE);
        due("10: OUTSIDE comes ahead of STATE", x.answer(0, 0), SilentAfter.OUTSIDE);
        due("10: answer(1, 0)", x.answer(1, 0), SilentAfter.OUTSIDE);
        due("10: answer(1, 100)", x.answer(1, 100), SilentAfter.OUTSIDE);
        due("10: answer(1, 99)", x.answer(1, 99), 61);
        due("10: UNKNOWN comes ahead of OUTSIDE", x.answer(6, 0), SilentAfter.UNKNOWN);
        due("10: answer(-1, 5)", x.answer(-1, 5), SilentAfter.UNKNOWN);
    }

    private static void promise11() {
        SilentAfter x = Checks.behind("A5");
        due("11: give(1, 0, 5)", x.give(1, 0, 5), 0);
        due("11: A has none to pay", x.told(10), 1000);
        due("11: B has none left", x.told(11), 1000);
        due("11: give(1, 0, 1)", x.give(1, 0, 1), SilentAfter.STATE);
        due("11: give(2, 3, 5)", x.give(2, 3, 5), 1);
        due("11: C", x.told(12), 1000);
        due("11: D", x.told(13), 991);
        due("11: give(3, 4, 9)", x.give(3, 4, 9), 5);
        due("11: E", x.told(14), 991);
        due("11: give(4, 5, 10)", x.give(4, 5, 10), SilentAfter.STATE);
        x.set(0, 3);
        String before = Checks.everything(x);
        due("11: give(4, 4, 1)", x.give(4, 4, 1), SilentAfter.UNKNOWN);
        due("11: give(6, 4, 1)", x.give(6, 4, 1), SilentAfter.UNKNOWN);
        due("11: give(4, -1, 0)", x.give(4, -1, 0), SilentAfter.UNKNOWN);
        due("11: give(4, 5, 0)", x.give(4, 5, 0), SilentAfter.OUTSIDE);
        due("11: give(4, 5, 100)", x.give(4, 5, 100), SilentAfter.OUTSIDE);
        due("11: OUTSIDE comes ahead of STATE", x.give(0, 5, -1), SilentAfter.OUTSIDE);
        due("11: give(4, 5, 99)", x.give(4, 5, 99), SilentAfter.STATE);
        CHECKS.unchanged("11: refused give", x, before);
        due("11: all is lost below the bound", x.give(4, 5, 4), 4);
        due("11: F stays", x.told(15), 995);
        due("11: E is poorer", x.told(14), 995);
        due("11: TIME stays", x.told(1), 5);
    }
}
