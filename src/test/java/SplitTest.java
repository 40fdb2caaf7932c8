/** Promises 4 to 10, 15 to 24 on split rings. */
public final class SplitTest {
    public static void main(String[] args) {
        setups();
        refusedOffers();
        leastDescriptors();
        indirectTables();
        anyOrder();
        inOrder();
        batches();
        resets();
        cells();
        fiveHundred();
        positionsWrap();
        Due.close("SplitTest");
    }

    private static void setups() {
        RingMarks x = Due.ring(0, 8, 3);
        Due.offer(x, "r1", 1);
        int[][] bad = {{-1, 4, 0}, {2, 4, 0}, {0, 0, 0}, {0, 1, 0}, {0, 3, 0}, {0, 16, 0}, {0, 4, -1}, {0, 4, 8}};
        for (int[] b : bad) {
            Due.is("P4 bad setup", x.setup(b[0], b[1], b[2]), -1);
            Due.is("P4 all stays", x.count(1) * 100 + x.count(2) * 10 + x.now(5), 831);
        }
        Due.is("P4 setup", x.setup(0, 2, 7), 0);
        Due.is("P4 new ring", x.now(0) + x.now(5) + x.now(6), 0);
        Due.is("P4 free", x.now(4), 2);
        Due.is("P19 tables are not laid", x.table(1), 0);
        Due.is("P18 all 0", x.descriptor(0, 0, 0) + x.descriptor(0, 0, 1) + x.descriptor(0, 0, 2), 0);
    }

    private static void refusedOffers() {
        RingMarks x = Due.ring(0, 4, 0);
        Due.is("P5 -4", Due.offer(x, "r1", 1), -4);
        Due.is("P5 -5", Due.offer(x, "r1r1r1r1r1", 0), -5);
        Due.is("P5 w before r can be offered", Due.offer(x, "w1r1", 0), 0);
        Due.is("P6 but is refused", x.fetch(), -16);
        Due.is("P6 broken", x.fetch(), -2);
        Due.is("P22 broken by", x.now(7), 6);
        Due.is("P5 -3 ahead of -4", Due.offer(x, "r1", 1), -3);
        Due.is("P5 a fault ahead of -3", Due.offer(x, "r", 0), -1001);
        Due.is("P5 -2 ahead of all", Due.offer(x, "r", 3), -2);
        x.setup(0, 8, 2);
        for (int k = 0; k < 4; k++) {
            Due.is("P5 indirect", Due.offer(x, "r1", 1), k);
        }
        Due.is("P5 -6", Due.offer(x, "r1", 1), -6);
        Due.is("P5 direct still", Due.offer(x, "r1r1r1r1", 0), 4);
        Due.is("P5 -5 ahead of -6", Due.offer(x, "r1", 1), -5);
        Due.is("P5 nothing more", x.now(5), 5);
    }

    private static void leastDescriptors() {
        RingMarks x = Due.ring(0, 8, 0);
        Due.offer(x, "r1r2", 0);
        Due.offer(x, "r3", 0);
        Due.offer(x, "r4r5", 0);
        for (int k = 0; k < 3; k++) {
            Due.is("P6 fetch", x.fetch(), k);
        }
        x.finish(0, 0);
        x.finish(2, 0);
        Due.is("P9 reap", x.reap(), 0);
        Due.is("P9 reap", x.reap(), 2);
        Due.is("P9 its descriptors stay", x.descriptor(0, 4, 0), 5);
        Due.is("P22 free", x.now(4), 7);
        Due.is("P5 offer", Due.offer(x, "r6r7w8w9", 0), 3);
        // 0, 1, 3, 4 are the least that are free.
        int[] at = {0, 1, 3, 4};
        for (int k = 0; k < 4; k++) {
            Due.is("P5 len", x.descriptor(0, at[k], 0), 6 + k);
            Due.is("P5 flags", x.descriptor(0, at[k], 1), (k < 3 ? 1 : 0) + (k > 1 ? 2 : 0));
            Due.is("P5 link", x.descriptor(0, at[k], 2), k < 3 ? at[k + 1] : 0);
        }
        Due.is("P21 head", x.buffer(3, 2), 0);
        Due.is("P21 how many", x.buffer(3, 7), 4);
        Due.is("P20 head offered", x.row(3, 0), 0);
        Due.is("P24 chain", x.chain(0), 4);
        Due.is("P24 chain of its end", x.chain(3), 2);
        Due.is("P24 no such one", x.chain(8), -11);
    }

    private static void indirectTables() {
        RingMarks x = Due.ring(0, 2, 2);
        Due.is("P5 eight parts in two places", Due.offer(x, "r1r2r3r4w5w6w7w8", 1), 0);
        Due.is("P19 table", x.table(1), 8);
        for (int i = 0; i < 8; i++) {
            Due.is("P5 len", x.descriptor(1, i, 0), i + 1);
            Due.is("P5 flags", x.descriptor(1, i, 1), (i < 7 ? 1 : 0) + (i > 3 ? 2 : 0));
            Due.is("P5 link", x.descriptor(1, i, 2), i < 7 ? i + 1 : 0);
        }
        Due.is("P5 the one in table 0", x.descriptor(0, 0, 0) * 100 + x.descriptor(0, 0, 1) * 10 + x.descriptor(0, 0, 2), 841);
        Due.is("P5 second table", Due.offer(x, "w9", 1), 1);
        Due.is("P21 table", x.buffer(1, 3), 2);
        Due.is("P21 one of table 0", x.buffer(0, 7), 1);
        Due.is("P6 fetch", x.fetch(), 0);
        Due.is("P21 capacity", x.buffer(0, 4), 26);
        Due.is("P21 load", x.buffer(0, 5), 10);
        Due.is("P23 acts", x.walked(0) * 1000000 + x.walked(1) * 10000 + x.walked(2) * 100 + x.walked(3), 1111202);
        Due.is("P23 no fifth", x.walked(4), -1);
        Due.is("P23 below 0", x.walked(-1), -1);
        x.fetch();
        x.finish(0, 26);
        Due.is("P9 reap", x.reap(), 0);
        Due.is("P10 length", x.length(), 26);
        Due.is("P19 it stays when free", x.table(1), 8);
        Due.is("P21 table it had", x.buffer(0, 3), 1);
        Due.is("P5 the least table again", Due.offer(x, "r3r4", 1), 2);
        Due.is("P21 table", x.buffer(2, 3), 1);
        Due.is("P19 as many as laid", x.table(1), 2);
        Due.is("P18 gone", x.descriptor(1, 2, 0), -1);
    }

    private static void anyOrder() {
        RingMarks x = Due.ring(0, 4, 0);
        Due.offer(x, "r5w7", 0);
        Due.offer(x, "w3", 0);
        Due.is("P21 capacity ahead", x.buffer(0, 4), -1);
        Due.is("P21 load ahead", x.buffer(0, 5), -1);
        Due.is("P7 not fetched", x.finish(0, 0), -1);
        Due.is("P6 fetch", x.fetch(), 0);
        Due.is("P6 fetch", x.fetch(), 1);
        Due.is("P6 none", x.fetch(), -1);
        Due.is("P7 too many", x.finish(1, 4), -2);
        Due.is("P7 below 0", x.finish(1, -1), -2);
        Due.is("P7 no such one", x.finish(2, 0), -1);
        Due.is("P7 no such one", x.finish(-1, 0), -1);
        Due.is("P21 written ahead", x.buffer(1, 6), -1);
        Due.is("P7 any", x.finish(1, 3), 0);
        Due.is("P7 once", x.finish(1, 3), -1);
        Due.is("P7 none of it", x.finish(0, 0), 0);
        Due.is("P20 used", x.row(0, 1) * 100 + x.row(0, 2) * 10 + x.row(1, 1), 230);
        Due.is("P10 ahead of any", x.length(), -1);
        Due.is("P9 reap", x.reap(), 1);
        Due.is("P10 length", x.length(), 3);
        Due.is("P21 reaped", x.buffer(1, 0), 3);
        Due.is("P9 reap", x.reap(), 0);
        Due.is("P10 length 0", x.length(), 0);
        Due.is("P9 none", x.reap(), -1);
        Due.is("P10 it stays", x.length(), 0);
        Due.is("P22 taken", x.now(3), 2);
        Due.is("P22 not reaped", x.now(6), 0);
        Due.is("P22 since setup", x.now(5), 2);
        for (int what = -1; what <= 8; what += 9) {
            Due.is("P21 no such what", x.buffer(0, what), -1);
        }
        Due.is("P22 no such what", x.now(-1), -1);
    }

    private static void inOrder() {
        RingMarks x = Due.ring(0, 4, 1);
        for (int k = 0; k < 3; k++) {
            Due.offer(x, "w9", 0);
            x.fetch();
        }
        Due.is("P7 -2 ahead of -3", x.finish(1, 10), -2);
        Due.is("P7 another is first", x.finish(1, 1), -3);
        Due.is("P7 the first", x.finish(0, 1), 0);
        Due.is("P7 the next", x.finish(1, 2), 0);
        Due.is("P9 reap", x.reap(), 0);
        Due.is("P10 length", x.length(), 1);
        Due.is("P22 nothing pending", x.now(12), -1);
        Due.is("P9 reap", x.reap(), 1);
        Due.is("P10 length", x.length(), 2);
        Due.offer(x, "w1r1", 0);
        Due.is("P6 refused", x.fetch(), -16);
        Due.is("P7 broken", x.finish(2, 0), -4);
        Due.is("P7 -2 ahead of broken", x.finish(2, 99), -2);
        Due.is("P8 broken", x.batch(2, 0), -4);
        Due.is("P8 -2 ahead of broken", x.batch(2, -1), -2);
    }

    private static void batches() {
        RingMarks x = Due.ring(0, 4, 0);
        Due.offer(x, "w9", 0);
        Due.is("P8 not fetched", x.batch(0, 0), -1);
        x.fetch();
        Due.is("P8 no order", x.batch(0, 9), -3);
        Due.is("P8 -2 ahead of -3", x.batch(0, 10), -2);
        x.setup(0, 4, 1);
        for (int k = 0; k < 4; k++) {
            Due.offer(x, "w9", 0);
            x.fetch();
        }
        Due.is("P8 three", x.batch(2, 8), 3);
        Due.is("P22 used", x.now(2), 3);
        Due.is("P20 told of that alone", x.row(0, 1) * 10 + x.row(0, 2), 28);
        Due.is("P20 none", x.row(1, 1) + x.row(2, 2), -2);
        Due.is("P21 finished", x.buffer(0, 0) * 100 + x.buffer(1, 0) * 10 + x.buffer(2, 0), 222);
        Due.is("P21 written", x.buffer(0, 6) * 100 + x.buffer(1, 6) * 10 + x.buffer(2, 6), -102);
        Due.is("P21 not the fourth", x.buffer(3, 0), 1);
        Due.is("P9 reap", x.reap(), 0);
        Due.is("P10 not told", x.length(), -1);
        Due.is("P22 up to", x.now(12), 2);
        Due.is("P7 the fourth", x.finish(3, 7), 0);
        Due.is("P9 reap", x.reap(), 1);
        Due.is("P10 not told", x.length(), -1);
        Due.is("P9 reap", x.reap(), 2);
        Due.is("P10 told", x.length(), 8);
        Due.is("P22 no more", x.now(12), -1);
        Due.is("P9 reap", x.reap(), 3);
        Due.is("P10 told", x.length(), 7);
        Due.is("P9 none", x.reap(), -1);
    }

    private static void resets() {
        RingMarks x = Due.ring(0, 4, 3);
        Due.is("P16 ahead of any", x.drained(0), -1);
        Due.offer(x, "w9", 1);
        Due.offer(x, "w9", 0);
        Due.offer(x, "w9", 0);
        Due.offer(x, "w9", 0);
        x.fetch();
        x.fetch();
        x.fetch();
        x.batch(1, 5);
        x.reap();
        x.kick();
        x.signal();
        x.event(0, 3);
        x.event(1, 3);
        Due.is("P22 kicks", x.now(8) * 10 + x.now(9), 11);
        Due.is("P15 reset", x.reset(), 3);
        Due.is("P16 drained", x.drained(0) * 100 + x.drained(1) * 10 + x.drained(2), 123);
        Due.is("P16 no fourth", x.drained(3), -1);
        Due.is("P16 below 0", x.drained(-1), -1);
        Due.is("P15 states", x.buffer(0, 0) * 1000 + x.buffer(1, 0) * 100 + x.buffer(2, 0) * 10 + x.buffer(3, 0), 3444);
        for (int what = 0; what <= 3; what++) {
            Due.is("P15 position", x.now(what), 0);
            Due.is("P15 rows", x.row(what, 0) + x.row(what, 1) + x.row(what, 2), -3);
            Due.is("P15 table 0", x.descriptor(0, what, 0) + x.descriptor(0, what, 1) + x.descriptor(0, what, 2), 0);
        }
        Due.is("P15 all is free", x.now(4), 4);
        Due.is("P15 events", x.now(10) + x.now(11), 0);
        Due.is("P15 pending", x.now(12), -1);
        Due.is("P15 buffers stay", x.now(5) * 10 + x.now(6), 40);
        Due.is("P15 notices stay", x.now(8) * 10 + x.now(9), 11);
        Due.is("P15 tables stay", x.table(1), 1);
        Due.is("P9 none", x.reap(), -1);
        Due.is("P7 drained ones are none", x.finish(2, 0), -1);
        Due.is("P12 nothing to tell", x.kick() + x.signal(), 0);
        Due.is("P5 numbers go on", Due.offer(x, "w1r1", 0), 4);
        Due.is("P6 refused", x.fetch(), -16);
        Due.is("P15 reset", x.reset(), 1);
        Due.is("P16 the latest", x.drained(0) * 10 + x.drained(1), 39);
        Due.is("P15 not broken", x.now(7), 0);
        Due.is("P15 none", x.reset(), 0);
        Due.is("P16 none", x.drained(0), -1);
        x.hush(0, 1);
        x.hush(1, 1);
        x.reset();
        Due.offer(x, "r1", 1);
        Due.is("P15 the table is free", x.buffer(5, 3), 1);
        x.fetch();
        x.finish(5, 0);
        Due.is("P15 hushes", x.kick() * 10 + x.signal(), 11);
    }

    private static void cells() {
        RingMarks x = Due.ring(0, 4, 2);
        Due.offer(x, "r1r2", 1);
        int[][] good = {{0, 3, 0, 999}, {0, 3, 1, 31}, {0, 3, 2, 99}, {1, 1, 0, 0}, {1, 1, 1, 0}, {1, 1, 2, 50}};
        for (int[] g : good) {
            int was = x.descriptor(g[0], g[1], g[2]);
            Due.is("P17 what it was", x.spoil(g[0], g[1], g[2], g[3]), was);
            Due.is("P18 what it is", x.descriptor(g[0], g[1], g[2]), g[3]);
        }
        int[][] bad = {{0, 3, 0, 1000}, {0, 3, 0, -1}, {0, 3, 1, 32}, {0, 3, 2, 100}, {0, 3, 3, 0}, {0, 3, -1, 0},
            {0, 4, 0, 0}, {0, -1, 0, 0}, {1, 2, 0, 0}, {2, 0, 0, 0}, {5, 0, 0, 0}, {-1, 0, 0, 0}};
        for (int[] b : bad) {
            Due.is("P17 none", x.spoil(b[0], b[1], b[2], b[3]), -1);
        }
        Due.is("P17 nothing changed", x.descriptor(0, 3, 0) * 10000 + x.descriptor(0, 3, 1) * 100 + x.descriptor(0, 3, 2), 9993199);
        Due.is("P19 tables", x.table(0) * 10 + x.table(1), 42);
        Due.is("P19 none", x.table(5) + x.table(-1), -2);
        Due.is("P20 no such ones", x.row(4, 0) + x.row(-1, 0) + x.row(0, 3) + x.row(0, -1), -4);
    }

    private static void fiveHundred() {
        RingMarks x = Due.ring(0, 4, 2);
        // An object is used for 512 calls at most, so the many buffers are offered by drawn deeds.
        for (int k = 0; k < 200; k++) {
            x.drawn(60, k);
            x.reset();
        }
        Due.is("P5 500 buffers", x.now(5), 500);
        Due.is("P5 -7", Due.offer(x, "r1", 0), -7);
        Due.is("P5 -7 indirect", Due.offer(x, "r1", 1), -7);
        Due.is("P5 -5 ahead of -7", Due.offer(x, "r1r1r1r1r1", 0), -5);
        Due.is("P21 the last", x.buffer(499, 7) > 0, true);
        Due.is("P21 no more", x.buffer(500, 0), -1);
        Due.is("P4 setup", x.setup(0, 8, 0), 0);
        Due.is("P5 from 0 again", Due.offer(x, "r1", 0), 0);
    }

    private static void positionsWrap() {
        RingMarks x = Due.ring(0, 2, 0);
        for (int k = 0; k < 20; k++) {
            Due.is("P5 offer", Due.offer(x, "w9", 0), k);
            Due.is("P6 fetch", x.fetch(), k);
            Due.is("P7 finish", x.finish(k, k % 10), 0);
            Due.is("P9 reap", x.reap(), k);
            Due.is("P10 length", x.length(), k % 10);
            Due.is("P22 positions", x.now(0) * 1000000 + x.now(1) * 10000 + x.now(2) * 100 + x.now(3), (k + 1) % 16 * 1010101);
        }
    }
}
