import java.nio.charset.StandardCharsets;

/** What the tests share: compares that are told, and texts fed to a tape. */
final class Due {
    private static int asked = 0;
    private static int wrong = 0;
    private static String about = "";

    private Due() {
    }

    static void is(String call, long got, long want) {
        asked++;
        if (got != want) {
            wrong++;
            if (wrong <= 40) {
                System.out.println(about + call + " answered " + got + ", due is " + want);
            }
        }
    }

    static void same(String call, String got, String want) {
        asked++;
        if (!got.equals(want)) {
            wrong++;
            if (wrong <= 40) {
                System.out.println(about + call + " answered " + got + ", due is " + want);
            }
        }
    }

    /** What the next answers are about is told ahead of each wrong one. */
    static void about(String words) {
        about = words;
    }

    static int asked() {
        return asked;
    }

    static void is(String call, boolean got, boolean want) {
        is(call, got ? 1 : 0, want ? 1 : 0);
    }

    /** Twenty zero bytes stand behind each text that is no multiple of twenty, so end() cuts them off. */
    static void feed(RingMarks x, String text) {
        feed(x, text.getBytes(StandardCharsets.ISO_8859_1));
    }

    static void feed(RingMarks x, byte[] bytes) {
        for (int from = 0; from < bytes.length; from += 20) {
            int[] n = new int[5];
            for (int k = 0; k < 20; k++) {
                int b = from + k < bytes.length ? bytes[from + k] & 255 : 0;
                n[k / 4] = n[k / 4] << 8 | b;
            }
            x.feed(n[0], n[1], n[2], n[3], n[4]);
        }
        x.end(bytes.length);
    }

    static int offer(RingMarks x, String text, int how) {
        feed(x, text);
        return x.offer(how);
    }

    static int steps(RingMarks x, String text, int side) {
        feed(x, text);
        return x.steps(side);
    }

    static RingMarks ring(int format, int places, int features) {
        RingMarks x = new RingMarks();
        is("setup", x.setup(format, places, features), 0);
        return x;
    }

    static void close(String name) {
        System.out.println(name + ": " + asked + " answers, " + wrong + " wrong");
        if (wrong != 0) {
            System.exit(1);
        }
    }
}
