/** Counts answers that are not as due, and writes texts on a pad. */
final class Checks {
    private final String title;
    private int right = 0;
    private int wrong = 0;

    Checks(String title) {
        this.title = title;
    }

    void due(String call, long got, long want) {
        if (got == want) {
            right++;
            return;
        }
        wrong++;
        if (wrong <= 40) {
            System.out.println(title + ": " + call + " answered " + got + ", due is " + want);
        }
    }

    boolean isWrong() {
        return wrong > 0;
    }

    void end() {
        System.out.println(title + ": " + right + " right, " + wrong + " wrong");
        if (wrong > 0) {
            System.exit(1);
        }
    }

    /** The pad holds just this text then. */
    static SilentAfter write(SilentAfter x, String text) {
        x.wipe();
        for (char sign : text.toCharArray()) {
            x.say(sign);
        }
        return x;
    }

    /** A new object behind this text. */
    static SilentAfter behind(String text) {
        SilentAfter x = write(new SilentAfter(), text);
        x.done();
        return x;
    }

    /** All that told() tells must be as in before (of everything()). */
    void unchanged(String call, SilentAfter x, String before) {
        if (!everything(x).equals(before)) {
            System.out.println("before: " + before + "\nafter:  " + everything(x));
        }
        due(call + " changes nothing", everything(x).equals(before) ? 1 : 0, 1);
    }

    /** What all calls answer that change nothing. */
    static String everything(SilentAfter x) {
        StringBuilder all = new StringBuilder();
        for (int what = 0; what <= 15; what++) {
            all.append(x.told(what)).append(' ');
        }
        all.append("talk");
        for (int i = -2; i < 7; i++) {
            all.append(' ').append(x.soonest(i));
        }
        all.append(" whom ").append(x.whom(9, 0)).append(' ').append(x.whom(9, 1));
        all.append(" fault ").append(x.fault()).append(" judge ").append(x.judge());
        all.append(" behind ").append(x.behind(-1));
        for (int person = 0; person < 6; person++) {
            all.append(' ').append(x.behind(person)).append(' ').append(x.burns(person, 0));
        }
        all.append(" filled");
        for (int i = -1; i < 3; i++) {
            all.append(' ').append(x.filled(i));
        }
        return all.toString();
    }
}
