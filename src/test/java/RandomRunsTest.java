import java.util.Arrays;
import java.util.Random;

/** Long runs of calls, drawn by told seeds, against the slow model. Arguments: first seed, number of runs. */
public final class RandomRunsTest {
    private static final int MOST_CALLS = 512;
    private static final int NOT_ASKED = -1000;
    private static final int[] STRANGE = {-1, -2, 6, 7, 8, 99, 100, 999, 1000, -100, Integer.MIN_VALUE, Integer.MAX_VALUE};

    private final Checks checks;
    private final int seed;
    private final Random random;
    private final SilentAfter program = new SilentAfter();
    private final SlowModel model = new SlowModel();
    private final StringBuilder text = new StringBuilder();
    private int calls = 0;

    private RandomRunsTest(Checks checks, int seed) {
        this.checks = checks;
        this.seed = seed;
        this.random = new Random(seed);
    }

    public static void main(String[] args) {
        int first = args.length > 0 ? Integer.parseInt(args[0]) : 1;
        int runs = args.length > 1 ? Integer.parseInt(args[1]) : 300;
        Checks checks = new Checks("random runs");
        for (int seed = first; seed < first + runs && !checks.isWrong(); seed++) {
            new RandomRunsTest(checks, seed).run();
        }
        checks.end();
    }

    private void run() {
        while (calls < MOST_CALLS && !checks.isWrong()) {
            switch (random.nextInt(12)) {
                case 0: case 1: case 2:
                    writeText();
                    if (random.nextInt(3) == 0) {
                        call("forget");
                        seeAndForgetSpeakers();
                    }
                    askText();
                    break;
                case 3:
                    talk();
                    break;
                case 4:
                    call("set", random.nextInt(2), few(0, 101));
                    break;
                case 5:
                    call("seen", few(0, 5), few(-12, 30));
                    break;
                case 6:
                    call("quarrel", few(0, 5), few(1, 99), few(0, 5), few(1, 99), few(0, 999), few(0, 1));
                    call("length", few(0, 5), few(0, 999), few(0, 1));
                    break;
                case 7:
                    call("give", few(0, 5), few(0, 5), few(1, 12));
                    call("answer", few(0, 5), few(1, 99));
                    call("free", few(0, 5));
                    break;
                case 8:
                    call("year", few(0, 9999), few(1, 99), few(0, 5));
                    break;
                case 9:
                    call(random.nextInt(3) == 0 ? "restore" : "image", few(0, 1));
                    break;
                case 10:
                    call(random.nextBoolean() ? "forget" : "drop");
                    break;
                default:
                    tellAll();
                    break;
            }
        }
    }

    /** Mostly from a to b, sometimes a strange number. */
    private int few(int a, int b) {
        return random.nextInt(25) == 0 ? STRANGE[random.nextInt(STRANGE.length)] : a + random.nextInt(b - a + 1);
    }

    private int someSeconds() {
        return random.nextInt(3) == 0 ? 1 + random.nextInt(99) : 1 + random.nextInt(12);
    }

    private void writeText() {
        call("wipe");
        text.setLength(0);
        int parts = random.nextInt(9);
        for (int i = 0; i < parts; i++) {
            writePart();
        }
        if (random.nextInt(12) == 0) {
            call("say", random.nextInt(130));
        }
        if (random.nextInt(12) == 0) {
            write("?!A.,059".substring(random.nextInt(8)).substring(0, 1));
        }
    }

    private void writePart() {
        int kind = random.nextInt(14);
        if (kind == 0) {
            write(",");
        } else if (kind < 4) {
            write("." + someSeconds());
        } else if (kind < 6) {
            write("?" + (random.nextInt(4) == 0 ? "!" : "") + someSeconds());
        } else {
            write((char) ('A' + random.nextInt(6)) + (random.nextInt(5) == 0 ? "!" : "") + someSeconds());
        }
    }

    private void write(String signs) {
        for (char sign : signs.toCharArray()) {
            call("say", sign);
        }
        text.append(signs);
    }

    /** Sees what a glass would show behind the text, and writes the text anew with some speakers not told. */
    private void seeAndForgetSpeakers() {
        for (int i = 0; i < 1 + random.nextInt(2); i++) {
            int person = random.nextInt(6);
            long shown = call("behind", person);
            if (shown > 900) {
                call("seen", person, (int) shown - 1000);
            }
        }
        char[] signs = text.toString().toCharArray();
        for (int i = 0; i < signs.length; i++) {
            if (signs[i] >= 'A' && random.nextInt(3) == 0) {
                signs[i] = '?';
            }
        }
        call("wipe");
        text.setLength(0);
        write(new String(signs));
    }

    private void askText() {
        call("fault");
        call("judge");
        call("behind", few(-1, 5));
        call("burns", few(0, 5), 0);
        call("burns", few(0, 5), few(0, 1));
        call("filled", -1);
        call("filled", few(0, 3));
        if (random.nextBoolean()) {
            call("done");
        }
    }

    private void talk() {
        if (random.nextInt(3) > 0) {
            call("drop");
        }
        int sayings = random.nextInt(6) == 0 ? 8 : random.nextInt(6);
        int people = 1 + random.nextInt(6);
        int longest = random.nextBoolean() ? 99 : 6;
        for (int i = 0; i < sayings; i++) {
            int behind = random.nextInt(3) == 0 ? random.nextInt(i + 2) - 1 : -1;
            call("saying", few(0, people - 1), few(1, longest), behind);
        }
        for (int i = -2; i < 3; i++) {
            call("soonest", i);
        }
        call("soonest", few(-3, 7));
        call("whom", few(1, 99), few(0, 1));
    }

    private void tellAll() {
        for (int what = 0; what < 16; what++) {
            call("told", what);
        }
        call("told", few(0, 15));
    }

    private long call(String name, int... a) {
        if (calls >= MOST_CALLS || checks.isWrong()) {
            return NOT_ASKED;
        }
        calls++;
        long answer = answer(name, a);
        checks.due("seed " + seed + ", call " + calls + ": " + name + Arrays.toString(a), answer, model.call(name, a));
        return answer;
    }

    private long answer(String name, int[] a) {
        switch (name) {
            case "set": return program.set(a[0], a[1]);
            case "say": return program.say(a[0]);
            case "wipe": return program.wipe();
            case "fault": return program.fault();
            case "judge": return program.judge();
            case "done": return program.done();
            case "behind": return program.behind(a[0]);
            case "free": return program.free(a[0]);
            case "answer": return program.answer(a[0], a[1]);
            case "give": return program.give(a[0], a[1], a[2]);
            case "saying": return program.saying(a[0], a[1], a[2]);
            case "drop": return program.drop();
            case "soonest": return program.soonest(a[0]);
            case "whom": return program.whom(a[0], a[1]);
            case "quarrel": return program.quarrel(a[0], a[1], a[2], a[3], a[4], a[5]);
            case "length": return program.length(a[0], a[1], a[2]);
            case "seen": return program.seen(a[0], a[1]);
            case "forget": return program.forget();
            case "filled": return program.filled(a[0]);
            case "burns": return program.burns(a[0], a[1]);
            case "year": return program.year(a[0], a[1], a[2]);
            case "image": return program.image(a[0]);
            case "restore": return program.restore(a[0]);
            case "told": return program.told(a[0]);
            default: throw new IllegalArgumentException(name);
        }
    }
}
