/** Promises 4 to 10, 15 to 24 on packed rings. */
public final class PackedTest {
    public static void main(String[] args) {
        wraps();
        ids();
        indirects();
        batches();
        spoiltMarks();
        lost();
        spoiltOrder();
        resets();
        Due.close("PackedTest");
    }

    private static void wraps() {
        RingMarks x = Due.ring(1, 4, 0);
        int position = 0;
        for (int k = 0; k < 12; k++) {
            Due.is("P5 offer", Due.offer(x, "r1r2w3", 0), k);
            for (int i = 0; i < 3; i++) {
                int p = (position + i) % 8;
                int flags = (i < 2 ? 1 : 2) + (p < 4 ? 8 : 16);
                Due.is("P5 flags", x.descriptor(0, p % 4, 1), flags);
                Due.is("P5 len", x.descriptor(0, p % 4, 0), i + 1);
                Due.is("P5 id", x.descriptor(0, p % 4, 2), 0);
            }
            Due.is("P5 full", Due.offer(x, "r1r2", 0), -5);
            Due.is("P6 fetch", x.fetch(), k);
            Due.is("P6 none", x.fetch(), -1);
            Due.is("P9 none", x.reap(), -1);
            Due.is("P7 finish", x.finish(k, 2), 0);
            Due.is("P7 mark", x.descriptor(0, position % 4, 1), position < 4 ? 24 : 0);
            Due.is("P7 len", x.descriptor(0, position % 4, 0), 2);
            Due.is("P9 reap", x.reap(), k);
            position = (position + 3) % 8;
            for (int what = 0; what < 4; what++) {
                Due.is("P22 position", x.now(what), position);
            }
        }
        Due.is("P20 packed", x.row(0, 0), -1);
        Due.is("P24 packed", x.chain(0), -1);
    }

    private static void ids() {
        RingMarks x = Due.ring(1, 8, 0);
        for (int k = 0; k < 4; k++) {
            Due.offer(x, "w9", 0);
            Due.is("P21 id", x.buffer(k, 2), k);
            x.fetch();
        }
        Due.is("P7 any", x.finish(2, 1), 0);
        Due.is("P7 any", x.finish(0, 2), 0);
        Due.is("P18 at the place of USED", x.descriptor(0, 0, 2) * 10 + x.descriptor(0, 1, 2), 20);
        Due.is("P9 reap", x.reap(), 2);
        Due.is("P5 the least ID", Due.offer(x, "w9w9", 0), 4);
        Due.is("P21 id", x.buffer(4, 2), 2);
        Due.is("P21 places", x.buffer(4, 7), 2);
        Due.is("P9 reap", x.reap(), 0);
        Due.is("P10 length", x.length(), 2);
        Due.is("P5 the least ID", Due.offer(x, "w9", 0), 5);
        Due.is("P21 id", x.buffer(5, 2), 0);
        Due.is("P22 free places", x.now(4), 3);
    }

    private static void indirects() {
        RingMarks x = Due.ring(1, 8, 2);
        for (int k = 0; k < 4; k++) {
            Due.is("P5 indirect", Due.offer(x, "r1w2", 1), k);
            Due.is("P21 table of its ID", x.buffer(k, 3), k + 1);
        }
        Due.is("P5 mark", x.descriptor(0, 3, 0) * 10000 + x.descriptor(0, 3, 1) * 100 + x.descriptor(0, 3, 2), 21203);
        Due.is("P5 no marks within", x.descriptor(4, 0, 1) * 10 + x.descriptor(4, 1, 1), 12);
        Due.is("P5 links within", x.descriptor(4, 0, 2) * 10 + x.descriptor(4, 1, 2), 10);
        Due.is("P5 table of ID 4 is that of 0", Due.offer(x, "r1", 1), -6);
        x.fetch();
        Due.is("P23 acts", x.walked(0) * 1000000 + x.walked(1) * 10000 + x.walked(2) * 100 + x.walked(3), 1111202);
        x.fetch();
        Due.is("P7 finish", x.finish(1, 2), 0);
        Due.is("P9 reap", x.reap(), 1);
        Due.is("P5 the ID and its table are free", Due.offer(x, "w1w2w3w4w5", 1), 4);
        Due.is("P21 table", x.buffer(4, 3) * 10 + x.buffer(4, 2), 21);
        Due.is("P19 table", x.table(2), 5);
        Due.is("P5 a direct one has ID 4", Due.offer(x, "r1", 0), 5);
        Due.is("P21 id", x.buffer(5, 2), 4);
        Due.is("P21 no table", x.buffer(5, 3), -1);
        Due.is("P5 the table of ID 5 is that of 1", Due.offer(x, "r1", 1), -6);
        x.setup(1, 2, 2);
        Due.is("P5 as many parts as places", Due.offer(x, "r1r2", 1), 0);
        Due.is("P6 fetch", x.fetch(), 0);
        Due.is("P5 more parts than places", Due.offer(x, "r1r2r3", 1), 1);
        Due.is("P6 N were in this walk already", x.fetch(), -12);
        Due.is("P23 acts", x.walked(1) * 100 + x.walked(2), 2122);
    }

    private static void batches() {
        RingMarks x = Due.ring(1, 8, 1);
        Due.offer(x, "r1w2", 0);
        Due.offer(x, "w3", 0);
        Due.offer(x, "r4r4w4", 0);
        x.fetch();
        x.fetch();
        x.fetch();
        Due.is("P8 two", x.batch(1, 3), 2);
        Due.is("P22 used", x.now(2), 3);
        Due.is("P8 told of that alone", x.descriptor(0, 0, 0) * 1000 + x.descriptor(0, 0, 1) * 10 + x.descriptor(0, 0, 2), 3241);
        Due.is("P9 reap", x.reap(), 0);
        Due.is("P22 taken", x.now(3), 2);
        Due.is("P22 up to", x.now(12), 1);
        Due.is("P17 what was told is not looked at again", x.spoil(0, 0, 0, 7), 3);
        Due.is("P9 reap", x.reap(), 1);
        Due.is("P10 length", x.length(), 3);
        Due.is("P22 taken", x.now(3), 3);
        Due.is("P9 none", x.reap(), -1);
        Due.is("P8 one", x.batch(2, 4), 1);
        Due.is("P9 reap", x.reap(), 2);
        Due.is("P22 taken", x.now(3), 6);
    }

    private static void spoiltMarks() {
        RingMarks x = Due.ring(1, 4, 0);
        Due.offer(x, "r1r2", 0);
        Due.offer(x, "w3", 0);
        // The second place is not available: that is refused, while at the first one none is there.
        x.spoil(0, 0, 1, 1);
        Due.is("P6 AVAIL is not the wrap", x.fetch(), -1);
        x.spoil(0, 0, 1, 25);
        Due.is("P6 DONE is the wrap", x.fetch(), -1);
        x.spoil(0, 0, 1, 9);
        x.spoil(0, 1, 1, 24);
        Due.is("P6 refused", x.fetch(), -11);
        Due.is("P22 SEEN stays", x.now(1), 0);
        Due.is("P23 opened and shut", x.walked(0) * 10 + x.walked(1), 12);
        Due.is("P15 reset", x.reset(), 2);
        // All places linked on: behind the last one the wrap is another.
        Due.offer(x, "r1r2r3r4", 0);
        x.spoil(0, 3, 1, 9);
        Due.is("P6 round the ring", x.fetch(), -11);
        x.reset();
        // The walk goes into the next buffer: that one is fetched.
        Due.offer(x, "r1r2", 0);
        Due.offer(x, "w3", 0);
        x.spoil(0, 1, 1, 9);
        Due.is("P6 by the ID of the last place", x.fetch(), 4);
        Due.is("P22 SEEN", x.now(1), 3);
        Due.is("P21 capacity", x.buffer(4, 4), 3);
        Due.is("P21 load", x.buffer(4, 5), 3);
        Due.is("P7 USED goes by its own places", x.finish(4, 3), 0);
        Due.is("P22 USED", x.now(2), 1);
        x.reset();
        Due.offer(x, "w3", 0);
        x.spoil(0, 0, 1, 14);
        Due.is("P6 indirect without that feature", x.fetch(), -13);
        x.reset();
        Due.offer(x, "w3", 0);
        x.spoil(0, 0, 2, 99);
        Due.is("P6 no such ID", x.fetch(), -17);
    }

    private static void lost() {
        RingMarks x = Due.ring(1, 4, 0);
        Due.offer(x, "w3", 0);
        Due.offer(x, "w3", 0);
        x.fetch();
        x.finish(0, 1);
        x.spoil(0, 0, 2, 1);
        Due.is("P9 ID 1 is not finished", x.reap(), -2);
        x.spoil(0, 0, 2, 9);
        Due.is("P9 no such ID", x.reap(), -2);
        Due.is("P22 TAKEN stays", x.now(3), 0);
        x.spoil(0, 0, 2, 0);
        x.spoil(0, 0, 0, 77);
        Due.is("P9 reap", x.reap(), 0);
        Due.is("P10 what is told there", x.length(), 77);
        Due.is("P21 written", x.buffer(0, 6), 1);
    }

    private static void spoiltOrder() {
        RingMarks x = Due.ring(1, 4, 1);
        Due.offer(x, "w3", 0);
        Due.offer(x, "w3", 0);
        x.spoil(0, 0, 2, 1);
        Due.is("P6 the second one first", x.fetch(), 1);
        Due.is("P7 it alone is fetched", x.finish(1, 2), 0);
        Due.is("P9 the first that is not reaped", x.reap(), 0);
        Due.is("P10 not told", x.length(), -1);
        Due.is("P21 reaped", x.buffer(0, 0), 3);
        Due.is("P21 never fetched", x.buffer(0, 4), -1);
        Due.is("P9 up to it", x.reap(), 1);
        Due.is("P10 told", x.length(), 2);
        x.spoil(0, 1, 2, 0);
        Due.is("P6 none that is offered has it", x.fetch(), -17);
    }

    private static void resets() {
        RingMarks x = Due.ring(1, 2, 6);
        Due.offer(x, "r1", 1);
        Due.offer(x, "r1w2", 1);
        x.fetch();
        Due.is("P15 reset", x.reset(), 2);
        Due.is("P15 all is free", x.now(4), 2);
        Due.is("P15 tables stay", x.table(2), 2);
        Due.is("P15 marks", x.descriptor(0, 0, 1) + x.descriptor(0, 1, 1), 0);
        Due.is("P6 none", x.fetch(), -1);
        Due.is("P9 none", x.reap(), -1);
        Due.is("P5 the wrap as at first", Due.offer(x, "w1", 0), 2);
        Due.is("P18 flags", x.descriptor(0, 0, 1), 10);
        Due.is("P21 id", x.buffer(2, 2), 0);
    }
}
