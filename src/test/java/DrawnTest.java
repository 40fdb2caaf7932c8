/** Promise 34: the deeds that are drawn are those that the calls do. */
public final class DrawnTest {
    private int x;

    public static void main(String[] args) {
        wrongOnes();
        knownOnes();
        for (int seed = -40; seed < 40; seed++) {
            for (int format = 0; format <= 1; format++) {
                new DrawnTest().compare(format, 2 << Math.floorMod(seed, 3), Math.floorMod(seed, 8), seed);
            }
        }
        broken();
        Due.close("DrawnTest");
    }

    private static void wrongOnes() {
        RingMarks r = new RingMarks();
        for (int n : new int[] {0, -1, 61, Integer.MIN_VALUE, Integer.MAX_VALUE}) {
            Due.is("P34 not as told", r.drawn(n, 1), -1);
        }
        Due.is("P34 nothing is done", r.now(5), 0);
        Due.is("P34 one", r.drawn(1, Integer.MIN_VALUE) >= 0, true);
        Due.is("P34 sixty", r.drawn(60, Integer.MAX_VALUE) >= 0, true);
    }

    private static void knownOnes() {
        RingMarks r = new RingMarks();
        Due.is("P34 drawn(20, 7)", r.drawn(20, 7), 5);
        Due.is("P34 drawn(30, 9)", r.drawn(30, 9), 5);
        Due.is("P34 drawn(60, -3)", r.drawn(60, -3), 4);
    }

    private int draw(int n) {
        x = x * 1103515245 + 12345;
        return (x >>> 8) % n;
    }

    /** The deeds of a seed, done by calls: how many were done. */
    static int replay(RingMarks r, int n, int seed) {
        DrawnTest draws = new DrawnTest();
        draws.x = seed;
        int done = 0;
        for (int k = 0; k < n; k++) {
            done += draws.deed(r) ? 1 : 0;
        }
        return done;
    }

    private void compare(int format, int places, int features, int seed) {
        RingMarks drawn = Due.ring(format, places, features);
        RingMarks called = Due.ring(format, places, features);
        for (int round = 0; round < 8; round++) {
            int n = 5 + round;
            int done = replay(called, n, seed * 31 + round);
            Due.is("P34 done", drawn.drawn(n, seed * 31 + round), done);
            for (int what = 0; what <= 12; what++) {
                Due.is("P34 now " + what, drawn.now(what), called.now(what));
            }
            Due.is("P34 length", drawn.length(), called.length());
        }
    }

    private boolean deed(RingMarks r) {
        switch (draw(8)) {
            case 0:
            case 1:
                String text = "r4".repeat(draw(3) + 1);
                return Due.offer(r, text + "w9".repeat(draw(2)), 0) >= 0;
            case 2:
            case 3:
                return r.fetch() >= 0;
            case 4:
            case 5:
                for (int b = 0; b < r.now(5); b++) {
                    if (r.buffer(b, 0) == 1) {
                        return r.finish(b, draw(10)) == 0;
                    }
                }
                return false;
            case 6:
                return r.reap() >= 0;
            default:
                int kicked = r.kick();
                return r.signal() + kicked > 0;
        }
    }

    private static void broken() {
        RingMarks r = Due.ring(0, 8, 0);
        Due.offer(r, "w1r1", 0);
        r.fetch();
        Due.is("P34 a kick alone", r.drawn(60, 3), 1);
        Due.is("P34 no more", r.drawn(60, 3), 0);
        Due.is("P34 nothing is offered", r.now(5), 1);
    }
}
