/** Rings made ready for a test, and what stands in them written as a text. */
final class Bench {
    private Bench() {
    }

    static RingMarks split(int places, int features) {
        return Due.ring(0, places, features);
    }

    static RingMarks packed(int places, int features) {
        return Due.ring(1, places, features);
    }

    static int direct(RingMarks x, String text) {
        return Due.offer(x, text, 0);
    }

    static int indirect(RingMarks x, String text) {
        return Due.offer(x, text, 1);
    }

    /** A ring with one buffer that is offered. */
    static RingMarks with(int format, int places, int features, String text, int how) {
        RingMarks x = Due.ring(format, places, features);
        Due.is("offer " + text, Due.offer(x, text, how), 0);
        return x;
    }

    static void fetchAll(RingMarks x, int many) {
        for (int k = 0; k < many; k++) {
            Due.is("fetch", x.fetch() >= 0, true);
        }
    }

    /** One buffer is offered, fetched, finished with nothing written and reaped. */
    static int round(RingMarks x, String text) {
        int b = direct(x, text);
        Due.is("fetch", x.fetch(), b);
        Due.is("finish", x.finish(b, 0), 0);
        Due.is("reap", x.reap(), b);
        return b;
    }

    static void rounds(RingMarks x, int many) {
        for (int k = 0; k < many; k++) {
            round(x, "r1");
        }
    }

    /** LEN/FLAGS/LINK. */
    static String descriptor(RingMarks x, int table, int i) {
        return x.descriptor(table, i, 0) + "/" + x.descriptor(table, i, 1) + "/" + x.descriptor(table, i, 2);
    }

    static String table(RingMarks x, int table) {
        StringBuilder text = new StringBuilder();
        for (int i = 0; i < x.table(table); i++) {
            text.append(i == 0 ? "" : " ").append(descriptor(x, table, i));
        }
        return text.toString();
    }

    static String row(RingMarks x, int what) {
        StringBuilder text = new StringBuilder();
        for (int place = 0; place < x.count(1); place++) {
            text.append(place == 0 ? "" : " ").append(x.row(place, what));
        }
        return text.toString();
    }

    /** OFFERED, SEEN, USED, TAKEN. */
    static String positions(RingMarks x) {
        return x.now(0) + " " + x.now(1) + " " + x.now(2) + " " + x.now(3);
    }

    /** The state of each buffer, a digit each. */
    static String buffers(RingMarks x) {
        StringBuilder text = new StringBuilder();
        for (int b = 0; b < x.now(5); b++) {
            text.append(x.buffer(b, 0));
        }
        return text.toString();
    }

    static String acts(RingMarks x) {
        StringBuilder text = new StringBuilder();
        for (int i = 0; x.walked(i) >= 0; i++) {
            text.append(i == 0 ? "" : " ").append(x.walked(i));
        }
        return text.toString();
    }

    static String drained(RingMarks x) {
        StringBuilder text = new StringBuilder();
        for (int k = 0; x.drained(k) >= 0; k++) {
            text.append(k == 0 ? "" : " ").append(x.drained(k));
        }
        return text.toString();
    }

    /** All that can be asked of the ring. */
    static String whole(RingMarks x) {
        StringBuilder text = new StringBuilder();
        for (int what = 0; what <= 12; what++) {
            text.append(x.now(what)).append(' ');
        }
        for (int t = 0; t <= 4; t++) {
            text.append('|').append(table(x, t));
        }
        for (int what = 0; what <= 2; what++) {
            text.append('|').append(row(x, what));
        }
        for (int b = 0; b < x.now(5); b++) {
            text.append('|');
            for (int what = 0; what <= 7; what++) {
                text.append(x.buffer(b, what)).append(' ');
            }
        }
        return text.toString();
    }

    /** Only the flags of a descriptor are spoilt: these bits are turned over. */
    static void turn(RingMarks x, int table, int i, int bits) {
        x.spoil(table, i, 1, x.descriptor(table, i, 1) ^ bits);
    }
}
