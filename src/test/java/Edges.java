import java.util.function.Supplier;
import java.util.function.ToLongFunction;

/** Both sides of the document's boundaries: what is taken, what is refused, and that a refused call changes nothing. */
final class Edges {
    static final int[] NO_PERSONS = {-1, 6, Integer.MIN_VALUE, Integer.MAX_VALUE};

    private final Checks checks;

    Edges(String title) {
        checks = new Checks(title);
    }

    void due(String what, long got, long want) {
        checks.due(what, got, want);
    }

    void end() {
        checks.end();
    }

    /** The call is refused with this answer, and changes nothing. */
    void refused(String what, Supplier<SilentAfter> state, ToLongFunction<SilentAfter> call, long answer) {
        due(what, call.applyAsLong(state.get()), answer);
        changesNothing(what, state, call);
    }

    /** All that can be asked behind the call answers as if it had not been made. */
    void changesNothing(String what, Supplier<SilentAfter> state, ToLongFunction<SilentAfter> call) {
        SilentAfter x = state.get();
        call.applyAsLong(x);
        String with = withImages(x);
        String without = withImages(state.get());
        if (!with.equals(without)) {
            System.out.println("without: " + without + "\nwith:    " + with);
        }
        due(what + " changes nothing", with.equals(without) ? 1 : 0, 1);
    }

    /** The call is refused with this answer in a new object, in a busy one and in a full one. */
    void refusedAnywhere(String what, ToLongFunction<SilentAfter> call, long answer) {
        refused(what + ", new", SilentAfter::new, call, answer);
        refused(what + ", busy", () -> busy("B5.2C!3"), call, answer);
        refused(what + ", full", () -> full("A!9"), call, answer);
    }

    private static String withImages(SilentAfter x) {
        StringBuilder all = new StringBuilder(Checks.everything(x));
        for (int n = 0; n < 2; n++) {
            all.append("\n  image ").append(n).append(": ").append(x.restore(n)).append(' ').append(Checks.everything(x));
        }
        // Without signs the SIGHTS alone say whether there is a way.
        all.append("\n  ").append(x.wipe()).append(' ').append(x.filled(-1));
        return all.toString();
    }

    /** Nothing is as at first: glasses on both sides of 0, sayings, sights, this text, and two images that differ. */
    static SilentAfter busy(String text) {
        SilentAfter x = new SilentAfter();
        x.set(0, 20);
        x.set(1, 3);
        Checks.write(x, "A5B!2.4").done();
        x.saying(0, 5, -1);
        x.saying(1, 7, 0);
        x.seen(2, -13);
        x.image(0);
        Checks.write(x, "C9,D30").done();
        x.drop();
        x.saying(2, 30, -1);
        x.saying(2, 3, -1);
        x.saying(3, 40, 1);
        x.forget();
        x.seen(3, 30);
        x.seen(5, -20);
        x.image(1);
        x.set(0, 12);
        x.set(1, 1);
        Checks.write(x, "A!40").done();
        x.saying(2, 2, -1);
        return Checks.write(x, text);
    }

    /** As busy, but not one sign, SAYING or SIGHT more has room: nights, and this text behind them. */
    static SilentAfter full(String text) {
        SilentAfter x = busy(",".repeat(60 - text.length()) + text);
        for (int i = x.told(4); i < 7; i++) {
            x.saying(i % 3, 10 + i, i - 1);
        }
        for (int i = x.told(5); i < 6; i++) {
            x.seen(i, -i);
        }
        return x;
    }

    /** So many seconds of silence (1 to 99) go by; the pad is empty then. */
    static SilentAfter silent(SilentAfter x, int seconds) {
        Checks.write(x, "." + seconds).done();
        return x;
    }
}
