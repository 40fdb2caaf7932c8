/** Promises 35 and 36. */
public final class ImageTest {
    public static void main(String[] args) {
        places();
        allOfTheRing();
        whatStays();
        Due.close("ImageTest");
    }

    private static void places() {
        RingMarks x = new RingMarks();
        for (int k : new int[] {-1, 2, Integer.MIN_VALUE, Integer.MAX_VALUE}) {
            Due.is("P35 no such place", x.image(k), false);
            Due.is("P36 no such place", x.restore(k), false);
        }
        Due.is("P36 nothing kept", x.restore(0), false);
        Due.is("P35 kept", x.image(1), true);
        Due.is("P36 nothing kept there", x.restore(0), false);
        Due.offer(x, "r1", 0);
        Due.is("P35 kept", x.image(0), true);
        Due.is("P36 the one", x.restore(1), true);
        Due.is("P22 none was offered", x.now(5), 0);
        Due.is("P36 the other", x.restore(0), true);
        Due.is("P22 one was offered", x.now(5), 1);
        Due.offer(x, "r2", 0);
        Due.is("P35 kept anew", x.image(0), true);
        Due.is("P36 it is a copy", x.restore(1), true);
        Due.offer(x, "r9r9", 0);
        Due.is("P36 twice", x.restore(0), true);
        Due.is("P18 as kept", x.descriptor(0, 0, 0) * 10 + x.descriptor(0, 1, 0), 12);
        Due.is("P21 as kept", x.buffer(0, 7) * 10 + x.now(5), 12);
    }

    private static void allOfTheRing() {
        RingMarks x = Due.ring(1, 8, 7);
        Due.offer(x, "r1w9", 1);
        Due.offer(x, "w9", 0);
        Due.offer(x, "w9", 0);
        x.fetch();
        x.fetch();
        x.batch(1, 4);
        x.reap();
        x.kick();
        x.signal();
        x.event(1, 2);
        x.event(0, 5);
        x.hush(0, 1);
        int[] now = new int[13];
        for (int what = 0; what < 13; what++) {
            now[what] = x.now(what);
        }
        x.image(0);
        x.setup(0, 2, 0);
        Due.offer(x, "w1r1", 0);
        x.fetch();
        Due.is("P36 restore", x.restore(0), true);
        for (int what = 0; what < 13; what++) {
            Due.is("P36 now " + what, x.now(what), now[what]);
        }
        Due.is("P36 format", x.count(0) * 1000 + x.count(1) * 100 + x.count(2) * 10 + x.table(1), 1872);
        Due.is("P36 up to", x.now(12), 1);
        Due.is("P36 it goes on", x.reap(), 1);
        Due.is("P10 length", x.length(), 4);
        Due.is("P36 kicks are counted from there", x.kick() + x.signal(), 0);
        Due.is("P36 it goes on", x.fetch(), 2);
        x.setup(0, 4, 0);
        x.hush(1, 1);
        x.image(1);
        x.hush(1, 0);
        x.restore(1);
        Due.offer(x, "r1", 0);
        Due.is("P36 hushes", x.kick(), 0);
    }

    private static void whatStays() {
        RingMarks x = Due.ring(0, 4, 2);
        x.image(0);
        Due.offer(x, "w9", 1);
        x.fetch();
        x.finish(0, 7);
        x.reap();
        Due.offer(x, "w9", 0);
        Due.offer(x, "w9", 0);
        x.reset();
        Due.steps(x, "add;", 0);
        x.missed();
        Due.feed(x, new byte[] {0});
        x.play();
        x.feed(0, 0, 0, 0, 0);
        Due.is("P36 restore", x.restore(0), true);
        Due.is("P22 as kept", x.now(5), 0);
        Due.is("P10 stays", x.length(), 7);
        Due.is("P16 stays", x.drained(0) * 10 + x.drained(1), 12);
        Due.is("P23 stays", x.walked(1), 11);
        Due.is("P29 stays", x.missedBy(0), 0);
        Due.is("P32 stays", x.played(2), 1);
        Due.is("P37 the tape stays", x.count(4), 20);
        Due.is("P37 the driver stays", x.count(5), 1);
        Due.is("P4 setup", x.setup(0, 2, 0), 0);
        Due.is("P10 stays", x.length(), 7);
        Due.is("P16 stays", x.drained(0), 1);
        Due.is("P36 images stay", x.restore(0), true);
        Due.is("P37 as kept", x.count(1), 4);
    }
}
