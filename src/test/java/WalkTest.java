/** Promises 6, 23 and 24: each reason of a refusal, which one comes first, what is opened and shut. */
public final class WalkTest {
    public static void main(String[] args) {
        split();
        ofTwoTheLeast();
        inner();
        innerPacked();
        chainChangesNothing();
        Due.close("WalkTest");
    }

    private static RingMarks offered(int format, int places, int features, String text, int how) {
        RingMarks x = Due.ring(format, places, features);
        Due.is("P5 offer", Due.offer(x, text, how), 0);
        return x;
    }

    private static void refused(String call, RingMarks x, int reason, int... acts) {
        if (x.count(0) == 0) {
            Due.is("P24 " + call, x.chain(0), -10 - reason);
        }
        Due.is("P6 " + call, x.fetch(), -10 - reason);
        Due.is("P22 broken, " + call, x.now(7), reason);
        Due.is("P6 SEEN stays, " + call, x.now(1), 0);
        Due.is("P21 not fetched, " + call, x.buffer(0, 0), 0);
        for (int k = 0; k < acts.length; k++) {
            Due.is("P23 act of " + call, x.walked(k), acts[k]);
        }
        Due.is("P23 no more of " + call, x.walked(acts.length), -1);
    }

    private static void split() {
        RingMarks x = offered(0, 4, 0, "r1r2w3", 0);
        x.spoil(0, 1, 2, 4);
        refused("link to none", x, 1, 1, 2);
        x = offered(0, 4, 0, "r1r2w3", 0);
        x.spoil(0, 1, 2, 0);
        refused("loop", x, 2, 1, 2);
        x = offered(0, 4, 0, "r1r2w3", 0);
        x.spoil(0, 1, 2, 1);
        refused("loop of one", x, 2, 1, 2);
        x = offered(0, 4, 0, "r1r2w3", 0);
        x.spoil(0, 2, 1, 4);
        refused("indirect without that feature", x, 3, 1, 2);
        x = offered(0, 4, 2, "r1r2w3", 0);
        x.spoil(0, 2, 1, 4);
        refused("indirect not the first", x, 4, 1, 2);
        x = offered(0, 4, 2, "r1", 1);
        x.spoil(0, 0, 1, 5);
        refused("indirect with next", x, 4, 1, 2);
        for (int link : new int[] {0, 2, 5, 99}) {
            x = offered(0, 4, 2, "r1", 1);
            x.spoil(0, 0, 2, link);
            refused("table " + link, x, 5, 1, 2);
        }
        x = offered(0, 4, 2, "r1r1", 1);
        x.spoil(0, 0, 0, 3);
        refused("not so many", x, 5, 1, 2);
        x = offered(0, 4, 2, "r1r1", 1);
        x.spoil(0, 0, 0, 0);
        refused("of none", x, 5, 1, 2);
        x = offered(0, 4, 0, "r1w2r3", 0);
        refused("read behind write", x, 6, 1, 2);
    }

    private static void ofTwoTheLeast() {
        RingMarks x = offered(0, 4, 0, "r1", 0);
        x.spoil(0, 0, 1, 5);
        refused("3 ahead of 4", x, 3, 1, 2);
        x = offered(0, 4, 2, "r1", 1);
        x.spoil(0, 0, 1, 5);
        x.spoil(0, 0, 2, 9);
        refused("4 ahead of 5", x, 4, 1, 2);
        x = offered(0, 4, 0, "w1r2w3", 0);
        x.spoil(0, 1, 1, 4);
        refused("3 ahead of 6", x, 3, 1, 2);
        x = offered(0, 4, 0, "r1w2", 0);
        x.spoil(0, 1, 1, 3);
        x.spoil(0, 1, 2, 0);
        refused("2 ahead of 6", x, 2, 1, 2);
        x = offered(0, 4, 0, "w1r2w3", 0);
        x.spoil(0, 2, 2, 9);
        refused("the first one", x, 6, 1, 2);
        // An indirect one of table 0 is neither read nor written.
        x = offered(0, 4, 2, "r1", 1);
        x.spoil(0, 0, 1, 6);
        Due.is("P24 write on an indirect one", x.chain(0), 1);
        Due.is("P6 write on an indirect one", x.fetch(), 0);
        Due.is("P21 it is not counted", x.buffer(0, 4) * 10 + x.buffer(0, 5), 1);
    }

    private static void inner() {
        RingMarks x = offered(0, 4, 2, "r1r2w3", 1);
        x.spoil(1, 1, 2, 3);
        refused("inner link to none", x, 1, 1, 11, 12, 2);
        x = offered(0, 4, 2, "r1r2w3", 1);
        x.spoil(0, 0, 0, 2);
        refused("inner link beyond what LEN tells", x, 1, 1, 11, 12, 2);
        x = offered(0, 4, 2, "r1r2w3", 1);
        x.spoil(1, 1, 2, 0);
        refused("inner loop", x, 2, 1, 11, 12, 2);
        x = offered(0, 4, 2, "r1r2w3", 1);
        x.spoil(1, 2, 1, 4);
        refused("inner indirect", x, 4, 1, 11, 12, 2);
        x = offered(0, 4, 2, "r1w2r3", 1);
        refused("inner read behind write", x, 6, 1, 11, 12, 2);
        x = offered(0, 4, 2, "r1r2w3", 1);
        x.spoil(1, 0, 2, 2);
        Due.is("P24 by link", x.chain(0), 2);
        Due.is("P6 by link", x.fetch(), 0);
        Due.is("P21 load", x.buffer(0, 5), 1);
        x = offered(0, 4, 2, "r1r2w3", 1);
        x.spoil(1, 0, 1, 24);
        Due.is("P24 other flags are nothing", x.chain(0), 1);
        // A table that another buffer has, or that is free, can be walked too.
        x = offered(0, 4, 2, "r1r2w3", 1);
        Due.offer(x, "w5", 1);
        x.spoil(0, 0, 2, 2);
        x.spoil(0, 0, 0, 1);
        Due.is("P6 another table", x.fetch(), 0);
        Due.is("P21 capacity", x.buffer(0, 4), 5);
        Due.is("P23 another table", x.walked(1) * 100 + x.walked(2), 2122);
    }

    private static void innerPacked() {
        RingMarks x = offered(1, 4, 2, "r1r2w3", 1);
        x.spoil(1, 1, 2, 3);
        refused("inner link to none", x, 1, 1, 11, 12, 2);
        x = offered(1, 4, 2, "r1r2w3", 1);
        x.spoil(1, 1, 2, 0);
        refused("inner loop", x, 2, 1, 11, 12, 2);
        x = offered(1, 4, 2, "r1r2w3", 1);
        x.spoil(0, 0, 1, 13);
        refused("indirect with next", x, 4, 1, 2);
        x = offered(1, 4, 2, "r1r2", 0);
        x.spoil(0, 1, 1, 12);
        refused("indirect not the first", x, 4, 1, 2);
        x = offered(1, 4, 2, "r1r2w3", 1);
        x.spoil(0, 0, 2, 1);
        refused("table of another ID", x, 5, 1, 2);
        x = offered(1, 4, 2, "r1r2w3", 1);
        x.spoil(0, 0, 2, 8);
        refused("the table is there, no buffer has the ID", x, 7, 1, 11, 12, 2);
        x = offered(1, 4, 2, "w1r2", 1);
        refused("inner read behind write", x, 6, 1, 11, 12, 2);
    }

    private static void chainChangesNothing() {
        RingMarks x = offered(0, 4, 2, "r1", 1);
        Due.is("P23 ahead of any", x.walked(0), -1);
        Due.is("P24 chain", x.chain(0), 1);
        Due.is("P23 not by chain()", x.walked(0), -1);
        x.fetch();
        x.spoil(0, 1, 1, 4);
        Due.is("P24 refused", x.chain(1), -15);
        Due.is("P24 not broken by it", x.now(7), 0);
        Due.is("P23 not by chain()", x.walked(1), 11);
        Due.is("P6 none", x.fetch(), -1);
        Due.is("P23 not by a fetch() of none", x.walked(1), 11);
        Due.is("P24 no such one", x.chain(4), -11);
        Due.is("P24 below 0", x.chain(-1), -11);
        Due.is("P24 far off", x.chain(Integer.MAX_VALUE), -11);
        Due.is("P24 far off", x.chain(Integer.MIN_VALUE), -11);
    }
}
