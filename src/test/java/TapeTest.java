import java.nio.charset.StandardCharsets;

/** Promises 1 to 3 and 37, and the faults of promise 5 and 26. */
public final class TapeTest {
    public static void main(String[] args) {
        newObject();
        feedAndEnd();
        cutOff();
        chainTexts();
        chainFaults();
        stepFaults();
        counts();
        Due.close("TapeTest");
    }

    private static void newObject() {
        RingMarks x = new RingMarks();
        int[] count = {0, 4, 0, 16, 0, 0, 0, -1};
        for (int what = 0; what < count.length; what++) {
            Due.is("P1 count " + what, x.count(what), count[what]);
        }
        Due.is("P37 count -1", x.count(-1), -1);
        for (int what = 0; what < 12; what++) {
            Due.is("P1 now " + what, x.now(what), what == 4 ? 4 : 0);
        }
        Due.is("P1 now 12", x.now(12), -1);
        Due.is("P1 buffer", x.buffer(0, 0), -1);
    }

    private static void feedAndEnd() {
        RingMarks x = new RingMarks();
        for (int k = 1; k <= 5; k++) {
            Due.is("P2 feed", x.feed(0, 0, 0, 0, 0), 20 * k);
        }
        Due.is("P2 full", x.feed(1, 1, 1, 1, 1), -1);
        Due.is("P2 stays", x.count(4), 100);
        Due.is("P3 too many", x.end(101), false);
        Due.is("P3 below 0", x.end(-1), false);
        Due.is("P3 stays", x.count(4), 100);
        Due.is("P3 all of them", x.end(100), true);
        Due.is("P3 81", x.end(81), true);
        Due.is("P2 one too many", x.feed(1, 1, 1, 1, 1), -1);
        Due.is("P3 80", x.end(80), true);
        Due.is("P2 just fits", x.feed(1, 1, 1, 1, 1), 100);
        Due.is("P3 0", x.end(0), true);
        Due.is("P3 empty", x.count(4), 0);
        Due.is("P3 one of none", x.end(1), false);
        // Each number comes highest byte first: "r123" "w45 " "r6" and the highest bit of a byte.
        x.feed(0x72313233, 0x77343520, 0x72360000, 0, 0);
        x.end(10);
        Due.is("P2 order of bytes", x.offer(0), 0);
        Due.is("P2 first", x.descriptor(0, 0, 0), 123);
        Due.is("P2 second", x.descriptor(0, 1, 0), 45);
        Due.is("P2 third", x.descriptor(0, 2, 0), 6);
        x.feed(0xF2310000, 0, 0, 0, 0);
        x.end(2);
        Due.is("P2 byte above 127", x.offer(0), -1000);
    }

    /** What was cut off by end() is not read, though it was fed. */
    private static void cutOff() {
        String[] texts = {"r5w7", "r5w7", "r57", "add;", "add;", "add;"};
        int[] lengths = {1, 3, 2, 3, 0, 2};
        int[] answers = {-1001, -1003, 0, -1003, 0, -1000};
        for (int k = 0; k < texts.length; k++) {
            RingMarks x = new RingMarks();
            byte[] b = texts[k].getBytes(StandardCharsets.ISO_8859_1);
            x.feed(b[0] << 24 | b[1] << 16 | b[2] << 8 | (b.length > 3 ? b[3] : 0), 0x20202020, 0, 0, 0);
            x.end(lengths[k]);
            Due.is("P3 cut off " + texts[k] + " at " + lengths[k], k < 3 ? x.offer(0) : x.steps(0), answers[k]);
            Due.is("P3 length", x.descriptor(0, 0, 0), k == 2 ? 5 : 0);
        }
    }

    private static void chainTexts() {
        RingMarks x = Due.ring(0, 8, 0);
        Due.is("P5 blanks all over", Due.offer(x, "  r  007 w 0 r999w1  ", 0), 0);
        int[] lens = {7, 0, 999, 1};
        int[] flags = {1, 3, 1, 2};
        for (int i = 0; i < 4; i++) {
            Due.is("P5 len", x.descriptor(0, i, 0), lens[i]);
            Due.is("P5 flags", x.descriptor(0, i, 1), flags[i]);
            Due.is("P5 link", x.descriptor(0, i, 2), i < 3 ? i + 1 : 0);
        }
        x.setup(0, 8, 0);
        Due.is("P5 eight parts", Due.offer(x, "r1r2r3r4r5r6r7r8 ", 0), 0);
        Due.is("P5 parts", x.buffer(0, 1), 8);
        x.setup(0, 8, 0);
        Due.is("P5 60 bytes", Due.offer(x, "r" + "0".repeat(58) + "5", 0), 0);
        Due.is("P5 long number", x.descriptor(0, 0, 0), 5);
    }

    private static void chainFaults() {
        String[] texts = {"", " ", "   ", "x", "R5", "r", "r ", "r5 5", "r5x", "r5 w", "r1000", "r  1000", "r01000",
            "r99999999999999999999", "r5,w7", "r-1", "r1 2", "5", "r5\u0000", "rr5", "r5w 7r",
            "r1r2r3r4r5r6r7r8r9", "r1r2r3r4r5r6r7r8  x", "r1r2r3r4r5r6r7r8 r", "r5\tw5", " ".repeat(60), "r" + " ".repeat(59)};
        int[] places = {0, 1, 3, 0, 0, 1, 2, 3, 2, 4, 1, 3, 1,
            1, 2, 1, 3, 0, 2, 1, 6,
            16, 18, 17, 2, 60, 60};
        RingMarks x = Due.ring(0, 8, 0);
        for (int k = 0; k < texts.length; k++) {
            Due.is("P5 fault of '" + texts[k] + "'", Due.offer(x, texts[k], 0), -1000 - places[k]);
            Due.is("P5 the tape is empty then", x.count(4), 0);
        }
        Due.is("P5 61 bytes", Due.offer(x, "x" + " ".repeat(60), 0), -1060);
        Due.is("P5 another how", Due.offer(x, "x", 2), -2);
        Due.is("P5 the tape is empty then", x.count(4), 0);
        Due.is("P5 how below 0", Due.offer(x, "r5", -1), -2);
        Due.is("P5 nothing was offered", x.now(5), 0);
    }

    private static void stepFaults() {
        String[] texts = {"add", "add ", "add add;", "adda;", "addz;", "ad;", ";", "add;;", "add;x", "Add;", "add1;", "add;  tel;",
            "drain;", "add;read;tell;kick;add;read;tell;kick; add;", "add;read;tell;kick;add;read;tell;kick; ;", "5;"};
        int[] places = {3, 4, 4, 0, 0, 0, 0, 4, 4, 0, 3, 6,
            0, 39, 39, 0};
        RingMarks x = new RingMarks();
        Due.is("P26 driver", Due.steps(x, " add ; tell;", 0), 2);
        Due.is("P26 device", Due.steps(x, "drain;arm;again;sleep;arm;", 1), 5);
        for (int k = 0; k < texts.length; k++) {
            Due.is("P26 fault of '" + texts[k] + "'", Due.steps(x, texts[k], 0), -1000 - places[k]);
            Due.is("P26 it stays", x.count(5), 2);
            Due.is("P26 the tape is empty then", x.count(4), 0);
        }
        Due.is("P26 a driver's word", Due.steps(x, "drain;kick;", 1), -1006);
        Due.is("P26 six", Due.steps(x, "arm;arm;arm;arm;arm;arm;", 1), -1020);
        Due.is("P26 81 bytes", Due.steps(x, " ".repeat(81), 0), -1080);
        Due.is("P26 another side", Due.steps(x, "x", 2), -2);
        Due.is("P26 the tape is empty then", x.count(4), 0);
        Due.is("P26 the device stays", x.count(6), 5);
        Due.is("P26 80 bytes", Due.steps(x, "kick;" + " ".repeat(75), 0), 1);
        Due.is("P26 none", Due.steps(x, " ", 0), 0);
        Due.is("P26 eight", Due.steps(x, "add;read;tell;kick;add;read;tell;kick;", 0), 8);
    }

    private static void counts() {
        RingMarks x = Due.ring(1, 8, 5);
        int[] count = {1, 8, 5, 16, 20, 1, 2, -1};
        Due.steps(x, "kick;", 0);
        Due.steps(x, "arm;sleep;", 1);
        x.feed(0, 0, 0, 0, 0);
        for (int what = 0; what < count.length; what++) {
            Due.is("P37 count " + what, x.count(what), count[what]);
        }
        x.setup(1, 2, 0);
        Due.is("P37 M of 2 packed places", x.count(3), 4);
        x.setup(0, 2, 0);
        Due.is("P37 M of a split ring", x.count(3), 16);
    }
}
