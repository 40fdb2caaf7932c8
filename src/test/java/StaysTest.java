import java.util.Random;

/**
 * What is refused changes nothing, and asking changes nothing: of two objects one has every call of a run by chance, the
 * other only those that were taken; whatever is asked of both is answered alike.
 */
public final class StaysTest {
    private static final int RUNS = 3000;
    private static final int CALLS = 120;
    private static final String[] CHAINS = {"r5w7", "r 1 r2 w3", "w1", "w20", "r1r1r1r1", "w9r9", "r1w1w2w3w4w5w6w7", "r", "x", "r1000", ""};
    private static final String[] PROGRAMS = {"add;read;tell;", "add;kick;add;tell;", "drain;arm;again;sleep;", "drain;sleep;", "add", "", "sleep"};

    private final RingMarks all = new RingMarks();
    private final RingMarks taken = new RingMarks();
    private final Random random;
    private int refusals = 0;

    private StaysTest(int seed) {
        random = new Random(seed);
    }

    public static void main(String[] args) {
        int refusals = 0;
        for (int run = 0; run < RUNS; run++) {
            StaysTest test = new StaysTest(run);
            Due.about("run " + run + ": ");
            test.run();
            refusals += test.refusals;
        }
        Due.about("");
        Due.is("many are refused", refusals > RUNS * 20, true);
        Due.close("StaysTest");
    }

    private void run() {
        int format = random.nextInt(2);
        int places = 2 << random.nextInt(3);
        int features = random.nextInt(8);
        all.setup(format, places, features);
        taken.setup(format, places, features);
        for (int k = 0; k < CALLS; k++) {
            if (random.nextInt(3) != 0) {
                ring();
            } else {
                other();
            }
            if (k % 20 == 19) {
                Due.same("all that can be asked", asked(all), asked(taken));
            }
        }
    }

    /** True, if it was taken: then the other one has it, too. */
    private boolean isTaken(int answer) {
        if (answer < 0) {
            refusals++;
        }
        return answer >= 0;
    }

    private int far(int low, int high) {
        int[] far = {Integer.MIN_VALUE, Integer.MAX_VALUE, low - 1, high + 1};
        return random.nextInt(12) == 0 ? far[random.nextInt(far.length)] : low + random.nextInt(high - low + 1);
    }

    private int someBuffer() {
        int last = all.now(5) - 1;
        return random.nextInt(4) == 0 ? far(0, Math.max(0, last)) : last - random.nextInt(4);
    }

    private void ring() {
        switch (random.nextInt(9)) {
            case 0, 1, 2 -> offer();
            case 3, 4 -> fetch();
            case 5 -> {
                int b = someBuffer();
                int n = far(0, 2);
                if (isTaken(all.finish(b, n))) {
                    Due.is("finish", taken.finish(b, n), 0);
                }
            }
            case 6 -> {
                int b = someBuffer();
                int n = far(0, 1);
                int answer = all.batch(b, n);
                if (isTaken(answer)) {
                    Due.is("batch", taken.batch(b, n), answer);
                }
            }
            default -> {
                int answer = all.reap();
                if (isTaken(answer)) {
                    Due.is("reap", taken.reap(), answer);
                }
            }
        }
    }

    private void offer() {
        String text = CHAINS[random.nextInt(CHAINS.length)];
        int how = far(0, 1);
        int answer = Due.offer(all, text, how);
        if (isTaken(answer)) {
            Due.is("offer", Due.offer(taken, text, how), answer);
        } else {
            taken.end(0);
        }
    }

    /** By a refusal the device is broken: so that one counts as taken. */
    private void fetch() {
        int answer = all.fetch();
        if (isTaken(answer) || answer <= -10) {
            Due.is("fetch", taken.fetch(), answer);
        }
    }

    private void other() {
        switch (random.nextInt(12)) {
            case 0, 1 -> spoil();
            case 2 -> notice();
            case 3, 4 -> tell();
            case 5 -> steps();
            case 6 -> ask();
            case 7 -> images();
            case 8 -> {
                int n = far(1, 4);
                int seed = random.nextInt();
                int answer = all.drawn(n, seed);
                if (isTaken(answer)) {
                    Due.is("drawn", taken.drawn(n, seed), answer);
                }
            }
            case 9 -> {
                if (all.now(7) != 0 || random.nextInt(8) == 0) {
                    Due.is("reset", taken.reset(), all.reset());
                }
            }
            case 10 -> tape();
            default -> {
                int format = 2 - random.nextInt(2) * 3;
                int places = far(2, 8);
                Due.is("setup", all.setup(format, places, far(0, 7)), -1);
                Due.is("setup", all.setup(1, places % 2 == 0 ? 6 : places, 8), -1);
            }
        }
    }

    private void spoil() {
        int table = far(0, 4);
        int i = far(0, 7);
        int what = far(0, 2);
        int v = far(0, what == 0 ? 999 : what == 1 ? 31 : 99);
        int answer = all.spoil(table, i, what, v);
        if (isTaken(answer)) {
            Due.is("spoil", taken.spoil(table, i, what, v), answer);
        }
    }

    /** A notice that is not due is no refusal: the latest KICK is that one. */
    private void notice() {
        Due.is("kick", taken.kick(), all.kick());
        if (random.nextBoolean()) {
            Due.is("signal", taken.signal(), all.signal());
        }
    }

    private void tell() {
        int side = far(0, 1);
        int n = far(0, random.nextBoolean() ? 1 : 15);
        int answer = all.event(side, n);
        if (isTaken(answer)) {
            Due.is("event", taken.event(side, n), answer);
        }
        if (isTaken(all.hush(side, n))) {
            Due.is("hush", taken.hush(side, n), 0);
        }
    }

    private void steps() {
        String text = PROGRAMS[random.nextInt(PROGRAMS.length)];
        int side = far(0, 1);
        int answer = Due.steps(all, text, side);
        if (isTaken(answer)) {
            Due.is("steps", Due.steps(taken, text, side), answer);
        } else {
            taken.end(0);
        }
        answer = all.missed();
        if (isTaken(answer)) {
            Due.is("missed", taken.missed(), answer);
        }
    }

    private void ask() {
        asked(all);
        for (int k = 0; k < 20; k++) {
            all.due(far(0, 15), far(0, 15), far(0, 15));
            all.chain(far(0, 7));
            all.drained(far(0, 7));
            all.walked(far(0, 3));
            all.descriptor(far(0, 4), far(0, 7), far(0, 2));
            all.row(far(0, 7), far(0, 2));
            all.buffer(someBuffer(), far(0, 7));
        }
        all.states();
        all.misses();
        all.notices(far(0, 1));
    }

    private void images() {
        int k = far(0, 1);
        if (random.nextBoolean()) {
            if (all.image(k)) {
                Due.is("image", taken.image(k), true);
            }
        } else if (all.restore(k)) {
            Due.is("restore", taken.restore(k), true);
        }
    }

    private void tape() {
        Due.is("end", all.end(101), false);
        Due.is("end", all.end(-1), false);
        for (int k = 0; k < 5; k++) {
            Due.is("feed", taken.feed(k, 1, 2, 3, 4), all.feed(k, 1, 2, 3, 4));
        }
        Due.is("feed", all.feed(5, 5, 5, 5, 5), -1);
        Due.is("end", all.end(random.nextInt(2)), taken.end(0));
        all.end(0);
    }

    private static String asked(RingMarks x) {
        StringBuilder text = new StringBuilder(Bench.whole(x));
        for (int what = 0; what <= 6; what++) {
            text.append(x.count(what)).append(' ');
        }
        for (int what = 0; what <= 9; what++) {
            text.append(x.played(what)).append(' ');
        }
        for (int i = 0; i < 16; i++) {
            text.append(x.missedBy(i)).append(x.drained(i)).append(x.walked(i)).append(x.chain(i)).append(' ');
        }
        return text.append(x.states()).append(' ').append(x.misses()).append(' ').append(x.length()).toString();
    }
}
