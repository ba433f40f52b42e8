/** Promises 18 to 25. */
public final class NotToldTest {
    private static final Checks CHECKS = new Checks("promises 18 to 25");
    private static final long LOST = SilentAfter.LOST;

    private static void due(String call, long got, long want) {
        CHECKS.due(call, got, want);
    }

    public static void main(String[] args) {
        promise18();
        promise19();
        promise20();
        promise21();
        promise22();
        promise23();
        promise24();
        rowsOfImages();
        promise25();
        CHECKS.end();
    }

    private static void promise18() {
        SilentAfter x = new SilentAfter();
        due("18: nobody", x.seen(6, 0), SilentAfter.UNKNOWN);
        due("18: UNKNOWN comes first", x.seen(-1, 1000), SilentAfter.UNKNOWN);
        due("18: -100", x.seen(0, -100), SilentAfter.OUTSIDE);
        due("18: 1000", x.seen(0, 1000), SilentAfter.OUTSIDE);
        due("18: none is there", x.told(5), 0);
        due("18: -99", x.seen(0, -99), 1);
        due("18: 999", x.seen(5, 999), 2);
        for (int i = 3; i <= 6; i++) {
            due("18: number " + i, x.seen(0, 0), i);
        }
        due("18: full", x.seen(0, 0), SilentAfter.FULL);
        due("18: OUTSIDE comes ahead of FULL", x.seen(0, 1000), SilentAfter.OUTSIDE);
        due("18: told", x.told(5), 6);
    }

    private static void promise19() {
        SilentAfter x = new SilentAfter();
        due("19: forget() of none", x.forget(), 0);
        x.seen(0, 5);
        x.seen(0, 6);
        due("19: no way", x.filled(-1), 0);
        due("19: forget()", x.forget(), 2);
        due("19: none is left", x.told(5), 0);
        due("19: one way", x.filled(-1), 1);
    }

    private static void filled(String text, SilentAfter x, int ways, int... first) {
        Checks.write(x, text);
        due("20: ways of " + text, x.filled(-1), ways);
        for (int i = 0; i < first.length; i++) {
            due("20: ? " + i + " of " + text, x.filled(i), first[i]);
        }
        due("20: no more of " + text, x.filled(first.length), SilentAfter.NONE);
    }

    private static void promise20() {
        SilentAfter x = new SilentAfter();
        filled("", x, 1);
        filled("A5A5", x, 0);
        filled("A5.5A5", x, 1);
        filled("?5A5", x, 5, 1);
        filled("?!5A5", x, 5, 1);
        // Who was silent first has saved 5: he, too, is free for the third.
        filled("?5?5?5", x, 180, 0, 1, 0);
        filled("?1?1?!1", x, 180, 0, 1, 0);
        filled("A5?4A1", x, 0);
        filled("A5?5A1", x, 5, 1);
        due("20: filled(-2)", x.filled(-2), SilentAfter.NONE);
        due("20: filled(MIN)", x.filled(Integer.MIN_VALUE), SilentAfter.NONE);
        due("20: filled(MAX)", x.filled(Integer.MAX_VALUE), SilentAfter.NONE);
        x.seen(2, 5);
        filled("?5", x, 1, 2);
        filled("?1?1?5", x, 10, 0, 2, 2);
        filled("?1?2?5", x, 0);
        x.forget();
        x.seen(1, 10);
        x.seen(0, -5);
        filled("?!5", x, 1, 1);
        filled(".4?!5", x, 0);
        x.forget();
        x.seen(0, 0);
        x.seen(1, 0);
        filled("?5A5", x, 1, 1);
        x.seen(2, 0);
        Checks.write(x, "?5A5");
        due("20: no way", x.filled(-1), 0);
        due("20: no way", x.filled(0), SilentAfter.NONE);
        String before = Checks.everything(x);
        x.filled(-1);
        CHECKS.unchanged("20: filled", x, before);
        for (String fault : new String[] {"?", "A0", "?1?1?1?1"}) {
            Checks.write(x, fault);
            due("20: a fault", x.filled(-1), SilentAfter.NO);
            due("20: a fault", x.filled(0), SilentAfter.NO);
            due("20: a fault", x.filled(-7), SilentAfter.NO);
        }
        filled("?1", Checks.behind("A5"), 5, 1);
    }

    private static void burns(String ahead, String text, int person, long upper, long lower) {
        SilentAfter x = Checks.write(Checks.behind(ahead), text);
        due("21: upper, " + person + " in " + text, x.burns(person, 0), upper);
        due("21: lower, " + person + " in " + text, x.burns(person, 1), lower);
    }

    private static void promise21() {
        burns("", "A5", 0, 0, 1);
        burns("", "A5", 1, 1, 1);
        burns("", "A5B5", 0, 0, 1);
        burns("", "A5B5", 1, 1, 2);
        burns("", "A5B6", 0, 1, 11);
        burns("", "A5B6", 2, 1, 1);
        burns("", "A5B6.4", 1, 8, 15);
        burns("", "A5B6.4", 0, 1, 3);
        burns("", ".1", 0, 1, 1);
        burns("", "A1", 0, 0, 1);
        burns("", "A5.9", 0, 2, 7);
        SilentAfter y = Checks.write(new SilentAfter(), "A9.9");
        due("21: ahead of another text", y.burns(0, 1), 1);
        Checks.write(y, ",.9");
        due("21: a night where a saying was", y.burns(0, 0), 1);
        due("21: a night where a saying was", y.burns(0, 1), 1);
        Checks.write(y, "A2.2,.8");
        due("21: some nights", y.burns(0, 0), 2);
        due("21: some nights", y.burns(0, 1), 3);
        burns("", "A5,.5", 0, 1, 2);
        burns("", "A!5.15", 0, 1, 4);
        burns("A5", "A!5.15", 0, 0, 1);
        burns("A5", "A!5.16", 0, 1, 21);
        burns("A5", ".5", 0, 0, 1);
        burns("A5", ".6", 0, 1, 6);
        burns(".9", "A5.5", 0, 1, 2);
        SilentAfter x = Checks.write(new SilentAfter(), "A5B5");
        String before = Checks.everything(x);
        due("21: nobody", x.burns(6, 0), LOST - 1);
        due("21: UNKNOWN comes first", x.burns(-1, 2), LOST - 1);
        due("21: part 2", x.burns(0, 2), LOST - 2);
        due("21: part -1", x.burns(0, -1), LOST - 2);
        x.burns(0, 0);
        CHECKS.unchanged("21: burns", x, before);
        due("21: OUTSIDE comes ahead of NO", Checks.write(x, "A").burns(0, 2), LOST - 2);
        due("21: a fault", Checks.write(x, "A").burns(0, 0), LOST - 5);
        due("21: a saying that can not begin", Checks.write(x, "A5A5").burns(0, 1), LOST - 5);
        due("21: some ?", Checks.write(x, "A5A5?5").burns(0, 1), LOST - 3);
        due("21: no text", Checks.write(x, "").burns(0, 0), LOST - 4);
        due("21: no time", Checks.write(x, ",,").burns(5, 1), LOST - 4);
    }

    private static void promise22() {
        SilentAfter x = new SilentAfter();
        // 74: C says 4; 5624: C owes 4; 28652: C owes 3; 51790: E says 1; 17641: B, who has saved 7, says 7;
        // 12409: B says 8; 13231: B owes 8.
        due("22: year(0, 1, 2)", x.year(0, 1, 2), 1);
        due("22: year(0, 2, 2)", x.year(0, 2, 2), 1);
        due("22: year(0, 3, 4)", x.year(0, 3, 4), 0);
        due("22: year(0, 4, 4)", x.year(0, 4, 4), 1);
        due("22: year(0, 4, 1)", x.year(0, 4, 1), 0);
        due("22: year(0, 5, 1)", x.year(0, 5, 1), 1);
        due("22: year(0, 6, 1)", x.year(0, 6, 1), 2);
        due("22: year(0, 7, 1)", x.year(0, 7, 1), 2);
        due("22: year(77, 99, 0)", x.year(77, 99, 0), 19);
        due("22: year(77, 99, 5)", x.year(77, 99, 5), 12);
        String before = Checks.everything(x);
        int all = 0;
        for (int person = 0; person < 6; person++) {
            int sayings = x.year(9999, 99, person);
            due("22: some sayings of " + person, sayings > 0 ? 1 : 0, 1);
            all += sayings;
        }
        due("22: no more than turns", all <= 99 ? 1 : 0, 1);
        CHECKS.unchanged("22: year", x, before);
        due("22: nobody", x.year(0, 1, 6), SilentAfter.UNKNOWN);
        due("22: UNKNOWN comes first", x.year(-1, 0, -1), SilentAfter.UNKNOWN);
        due("22: seed -1", x.year(-1, 1, 0), SilentAfter.OUTSIDE);
        due("22: seed 10000", x.year(10000, 1, 0), SilentAfter.OUTSIDE);
        due("22: n 0", x.year(0, 0, 0), SilentAfter.OUTSIDE);
        due("22: n 100", x.year(0, 100, 0), SilentAfter.OUTSIDE);
        due("22: from glasses as they are", Checks.behind("C5").year(0, 1, 2), 0);
    }

    private static void promise23() {
        SilentAfter x = new SilentAfter();
        due("23: image(-1)", x.image(-1), SilentAfter.OUTSIDE);
        due("23: image(2)", x.image(2), SilentAfter.OUTSIDE);
        String before = Checks.everything(x);
        due("23: image(0)", x.image(0), 1);
        due("23: image(1)", x.image(1), 1);
        CHECKS.unchanged("23: image", x, before);
        Checks.write(x, "A5").done();
        due("23: image(0) anew", x.image(0), 1);
        x.restore(1);
        due("23: the second one stays", x.told(10), 1000);
        x.restore(0);
        due("23: the first one is anew", x.told(10), 1005);
    }

    private static void promise24() {
        SilentAfter x = new SilentAfter();
        due("24: restore(-1)", x.restore(-1), SilentAfter.OUTSIDE);
        due("24: restore(2)", x.restore(2), SilentAfter.OUTSIDE);
        due("24: restore(0)", x.restore(0), SilentAfter.STATE);
        due("24: restore(1)", x.restore(1), SilentAfter.STATE);
        Checks.write(x, "A5B!3").done();
        x.set(0, 20);
        x.set(1, 3);
        x.saying(0, 5, -1);
        x.saying(0, 7, 0);
        x.seen(4, 4);
        String before = Checks.everything(x);
        x.image(1);
        due("24: the other one was not kept", x.restore(0), SilentAfter.STATE);
        x.set(0, 1);
        x.set(1, 1);
        x.drop();
        x.saying(3, 3, -1);
        x.forget();
        x.seen(0, 0);
        Checks.write(x, ".9A5,").done();
        due("24: restore(1)", x.restore(1), 1);
        CHECKS.unchanged("24: restore", x, before);
        Checks.write(x, ".5");
        x.image(0);
        Checks.write(x, "C1");
        due("24: restore(0)", x.restore(0), 1);
        due("24: the pad stays", x.told(0), 2);
        due("24: the pad stays", x.behind(2), 993);
        due("24: done behind it", x.done(), 1);
        due("24: the image is kept still", x.restore(1), 1);
        CHECKS.unchanged("24: restored again", x, before);
    }

    private static void rowsOfImages() {
        SilentAfter x = new SilentAfter();
        x.saying(0, 2, -1);
        x.saying(1, 5, 0);
        x.seen(1, 5);
        x.seen(0, -5);
        x.image(0);
        x.drop();
        x.saying(2, 9, -1);
        x.saying(2, 50, -1);
        x.forget();
        x.seen(3, 1);
        x.seen(4, 1);
        x.image(1);
        x.restore(0);
        Checks.write(x, "?5");
        due("24: the sights of 0", x.filled(0), 1);
        due("24: the talk of 0", x.soonest(-1), 7);
        due("24: a third saying", x.saying(1, 1, 1), 3);
        due("24: one behind the other", x.soonest(0), 0);
        due("24: one behind the other", x.soonest(1), 1);
        x.restore(1);
        due("24: the sights of 1", x.filled(-1), 0);
        due("24: the talk of 1", x.soonest(-1), 68);
        x.restore(0);
        due("24: two sayings again", x.told(4), 2);
        x.drop();
        x.saying(0, 9, -1);
        x.saying(0, 1, -1);
        x.image(0);
        x.drop();
        x.saying(0, 9, -1);
        x.saying(0, 1, 0);
        due("24: behind it", x.soonest(0), 0);
        x.restore(0);
        due("24: not behind it any more", x.soonest(0), 1);
    }

    private static void promise25() {
        SilentAfter x = Checks.behind("A5B!3");
        x.set(0, 20);
        x.set(1, 4);
        x.saying(0, 5, -1);
        x.seen(4, 4);
        x.seen(4, 4);
        x.say('~');
        x.say('~');
        x.say('~');
        int[] want = {3, 8, 20, 4, 1, 2};
        for (int what = 0; what < want.length; what++) {
            due("25: told(" + what + ")", x.told(what), want[what]);
        }
        int[] glasses = {1002, 1001, 992, 992, 992, 992};
        for (int person = 0; person < 6; person++) {
            due("25: told(" + (10 + person) + ")", x.told(10 + person), glasses[person]);
        }
        for (int what : new int[] {-1, 6, 7, 8, 9, 16, Integer.MIN_VALUE, Integer.MAX_VALUE}) {
            due("25: told(" + what + ")", x.told(what), SilentAfter.OUTSIDE);
        }
    }
}
