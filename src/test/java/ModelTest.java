import java.util.ArrayList;
import java.util.List;
import java.util.Random;

/** Promises 4 to 25 and 34 to 36: runs of calls by chance, each answer compared with the model's. */
public final class ModelTest {
    private static final int RUNS = 4000;
    private static final int CALLS = 150;

    private final RingMarks x = new RingMarks();
    private Model m = new Model();
    private final Model[] kept = new Model[2];
    private final Random random;
    private final boolean spoils;

    private ModelTest(int seed) {
        random = new Random(seed);
        spoils = seed % 3 != 0;
    }

    public static void main(String[] args) {
        for (int run = 0; run < RUNS; run++) {
            new ModelTest(run).run(run);
        }
        Due.close("ModelTest");
    }

    private void run(int run) {
        int format = random.nextInt(2);
        int places = 2 << random.nextInt(3);
        int features = random.nextInt(8);
        String told = "run " + run + " of setup(" + format + ", " + places + ", " + features + "): ";
        Due.is(told + "setup", x.setup(format, places, features), m.setup(format, places, features));
        for (int k = 0; k < CALLS; k++) {
            call(told);
            if (k % 10 == 9) {
                compare(told);
            }
        }
        compare(told);
    }

    private int some(int low, int high) {
        if (random.nextInt(60) == 0) {
            int[] far = {Integer.MIN_VALUE, Integer.MAX_VALUE, -1, high + 1, 100000, -100000};
            return far[random.nextInt(far.length)];
        }
        return low + random.nextInt(high - low + 1);
    }

    private int someBuffer() {
        int first = m.firstFetched();
        return first >= 0 && random.nextInt(2) == 0 ? first : some(-1, m.bufs.size());
    }

    private void call(String told) {
        switch (random.nextInt(26)) {
            case 0, 1, 2, 3, 4 -> offer(told);
            case 5, 6, 7, 8 -> Due.is(told + "fetch", x.fetch(), m.fetch());
            case 9, 10, 11 -> {
                int b = someBuffer();
                int n = random.nextInt(4) == 0 ? some(0, 30) : 0;
                Due.is(told + "finish", x.finish(b, n), m.finish(b, n));
            }
            case 12 -> {
                int b = someBuffer();
                int n = random.nextInt(3) == 0 ? some(0, 9) : 0;
                Due.is(told + "batch", x.batch(b, n), m.batch(b, n));
            }
            case 13, 14, 15, 16 -> {
                Due.is(told + "reap", x.reap(), m.reap());
                Due.is(told + "length", x.length(), m.length);
            }
            case 17 -> Due.is(told + "kick", x.kick(), m.kick());
            case 18 -> Due.is(told + "signal", x.signal(), m.signal());
            case 19 -> {
                int side = some(0, 1);
                int n = some(0, m.m() - 1);
                Due.is(told + "event", x.event(side, n), m.event(side, n));
            }
            case 20 -> {
                int side = some(0, 1);
                int on = some(0, 1);
                Due.is(told + "hush", x.hush(side, on), m.hush(side, on));
            }
            case 21, 22 -> spoil(told);
            default -> seldom(told);
        }
    }

    private void seldom(String told) {
        switch (random.nextInt(12)) {
            case 0, 1, 2 -> {
                if (m.broken != 0 || random.nextInt(5) == 0) {
                    Due.is(told + "reset", x.reset(), m.reset());
                }
            }
            case 3 -> {
                int f = some(0, 1);
                int n = 1 << some(0, 4);
                int feat = some(0, 8);
                if (random.nextInt(4) == 0) {
                    Due.is(told + "setup", x.setup(f, n, feat), m.setup(f, n, feat));
                }
            }
            case 4, 5 -> {
                int n = some(1, 60);
                int seed = random.nextInt();
                Due.is(told + "drawn", x.drawn(n, seed), m.drawn(n, seed));
            }
            case 6 -> {
                int k = some(0, 1);
                boolean known = k == 0 || k == 1;
                Due.is(told + "image", x.image(k), known);
                if (known) {
                    kept[k] = m.copy();
                }
            }
            case 7 -> {
                int k = some(0, 1);
                boolean known = (k == 0 || k == 1) && kept[k] != null;
                Due.is(told + "restore", x.restore(k), known);
                if (known) {
                    m.take(kept[k]);
                }
            }
            case 8 -> {
                int e = some(0, m.m());
                int old = some(0, m.m());
                int now = some(0, m.m());
                Due.is(told + "due", x.due(e, old, now), m.due(e, old, now));
            }
            default -> {
                int i = some(-1, 8);
                Due.is(told + "chain", x.chain(i), m.chain(i));
            }
        }
    }

    private void offer(String told) {
        List<Integer> parts = new ArrayList<>();
        StringBuilder text = new StringBuilder();
        int size = random.nextInt(3) == 0 ? 1 + random.nextInt(8) : 1 + random.nextInt(2);
        boolean sorted = random.nextInt(20) != 0;
        int reads = random.nextInt(size + 1);
        for (int k = 0; k < size; k++) {
            boolean write = sorted ? k >= reads : random.nextBoolean();
            int len = random.nextInt(4) == 0 ? random.nextInt(1000) : random.nextInt(10);
            parts.add(write ? -len - 1 : len);
            text.append(write ? 'w' : 'r').append(random.nextBoolean() ? " " : "").append(len);
            text.append(random.nextBoolean() ? " " : "");
        }
        int how = random.nextInt(3) == 0 ? 1 : 0;
        int want = text.length() > 60 ? -1060 : m.offer(parts, how == 1);
        Due.is(told + "offer", Due.offer(x, text.toString(), how), want);
    }

    private void spoil(String told) {
        if (!spoils) {
            return;
        }
        int t = random.nextInt(2) == 0 ? 0 : some(0, 5);
        int i = some(0, m.n - 1);
        int what = some(0, 2);
        int was = Math.max(0, m.descriptor(t, i, what));
        int most = what == 0 ? 5 : what == 1 ? 31 : 9;
        int v = what == 1 && random.nextBoolean() ? was ^ 1 << random.nextInt(5) : some(0, most);
        Due.is(told + "spoil", x.spoil(t, i, what, v), m.spoil(t, i, what, v));
    }

    private void compare(String told) {
        for (int what = -1; what <= 13; what++) {
            Due.is(told + "now " + what, x.now(what), m.now(what));
        }
        for (int t = 0; t < 5; t++) {
            Due.is(told + "table", x.table(t), m.tables.get(t).size());
            for (int i = -1; i <= 8; i++) {
                for (int what = -1; what <= 3; what++) {
                    Due.is(told + "descriptor", x.descriptor(t, i, what), m.descriptor(t, i, what));
                }
            }
        }
        for (int place = -1; place <= 8; place++) {
            for (int what = -1; what <= 3; what++) {
                Due.is(told + "row", x.row(place, what), m.row(place, what));
            }
            Due.is(told + "walked", x.walked(place), place < 0 || place >= m.acts.size() ? -1 : m.acts.get(place));
            Due.is(told + "drained", x.drained(place), place < 0 || place >= m.drained.size() ? -1 : m.drained.get(place));
            Due.is(told + "chain", x.chain(place), m.chain(place));
        }
        for (int b = -1; b <= m.bufs.size(); b++) {
            for (int what = -1; what <= 8; what++) {
                Due.is(told + "buffer", x.buffer(b, what), m.buffer(b, what));
            }
        }
        Due.is(told + "length", x.length(), m.length);
        Due.is(told + "count", x.count(0) * 1000 + x.count(1) * 100 + x.count(2), m.format * 1000 + m.n * 100 + m.features);
        Due.is(told + "M", x.count(3), m.m());
    }
}
