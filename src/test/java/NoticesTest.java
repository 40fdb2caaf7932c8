/** Promises 11 to 14 and 25. */
public final class NoticesTest {
    public static void main(String[] args) {
        byPlainCompare();
        hushes();
        byEvent();
        byEventInPlaces();
        signals();
        events();
        dues();
        Due.close("NoticesTest");
    }

    private static void byPlainCompare() {
        RingMarks x = Due.ring(0, 4, 0);
        Due.is("P11 nothing", x.kick(), 0);
        Due.offer(x, "r1", 0);
        x.event(1, 15);
        Due.is("P11 an event is none without EVENT", x.kick(), 1);
        Due.is("P11 once", x.kick(), 0);
        Due.offer(x, "r1", 0);
        Due.offer(x, "r1", 0);
        Due.is("P11 one for both", x.kick(), 1);
        Due.is("P22 sent", x.now(8), 2);
        Due.is("P12 nothing", x.signal(), 0);
        x.fetch();
        x.finish(0, 0);
        Due.is("P12 signal", x.signal(), 1);
        Due.is("P12 once", x.signal(), 0);
        Due.is("P22 sent", x.now(9), 1);
    }

    private static void hushes() {
        RingMarks x = Due.ring(0, 4, 0);
        int[][] bad = {{2, 0}, {-1, 0}, {0, 2}, {1, -1}};
        for (int[] b : bad) {
            Due.is("P14 none", x.hush(b[0], b[1]), -1);
        }
        Due.is("P14 the device hushes", x.hush(1, 1), 0);
        Due.offer(x, "r1", 0);
        Due.is("P14 no kick", x.kick(), 0);
        Due.is("P14 not any more", x.hush(1, 0), 0);
        Due.is("P11 that was a KICK", x.kick(), 0);
        Due.offer(x, "r1", 0);
        Due.is("P14 the driver hushes", x.hush(0, 1), 0);
        Due.is("P14 that is not for kicks", x.kick(), 1);
        x.fetch();
        x.finish(0, 0);
        Due.is("P14 no signal", x.signal(), 0);
        x.fetch();
        x.finish(1, 0);
        x.hush(0, 0);
        Due.is("P14 signal", x.signal(), 1);
        x.setup(0, 4, 4);
        x.hush(1, 1);
        x.hush(0, 1);
        Due.offer(x, "r1", 0);
        x.fetch();
        x.finish(0, 0);
        Due.is("P11 by EVENT alone", x.kick() * 10 + x.signal(), 11);
    }

    private static void byEvent() {
        RingMarks x = Due.ring(0, 4, 4);
        int sent = 0;
        // The event lies two ahead each time, so each third buffer passes it.
        for (int k = 0; k < 30; k++) {
            Due.offer(x, "r1", 0);
            boolean due = k % 3 == 0;
            Due.is("P11 kick " + k, x.kick(), due ? 1 : 0);
            x.fetch();
            x.finish(k, 0);
            x.reap();
            if (due) {
                sent++;
                Due.is("P13 event", x.event(1, 2), (k + 3) % 16);
            }
            Due.is("P22 sent", x.now(8), sent);
        }
    }

    private static void byEventInPlaces() {
        RingMarks x = Due.ring(1, 4, 4);
        Due.offer(x, "r1r1r1", 0);
        Due.is("P11 passed 0", x.kick(), 1);
        Due.is("P13 event", x.event(1, 3), 3);
        x.fetch();
        Due.is("P13 event", x.event(1, 2), 5);
        Due.is("P22 the device's event", x.now(10), 5);
        x.finish(0, 0);
        x.reap();
        Due.offer(x, "r1r1", 0);
        Due.is("P11 3 to 5 does not pass 5", x.kick(), 0);
        Due.offer(x, "r1", 0);
        Due.is("P11 5 to 6 does", x.kick(), 1);
        Due.is("P13 n above", x.event(1, 8), -1);
        Due.is("P13 wraps", x.event(1, 7), 2);
    }

    private static void signals() {
        RingMarks x = Due.ring(0, 8, 5);
        for (int k = 0; k < 6; k++) {
            Due.offer(x, "r1", 0);
            x.fetch();
        }
        Due.is("P13 the driver's event", x.event(0, 3), 3);
        Due.is("P22 the driver's event", x.now(11), 3);
        x.finish(0, 0);
        Due.is("P12 0 to 1", x.signal(), 0);
        x.batch(2, 0);
        Due.is("P12 1 to 3", x.signal(), 0);
        x.batch(5, 0);
        Due.is("P12 3 to 6", x.signal(), 1);
        x.reap();
        x.reap();
        Due.is("P13 from TAKEN", x.event(0, 0), 2);
    }

    private static void events() {
        RingMarks x = new RingMarks();
        int[][] bad = {{2, 0}, {-1, 0}, {0, -1}, {0, 16}, {1, 16}};
        for (int[] b : bad) {
            Due.is("P13 none", x.event(b[0], b[1]), -1);
        }
        Due.is("P13 nothing changed", x.now(10) + x.now(11), 0);
        Due.is("P13 n up to M - 1", x.event(0, 15), 15);
        Due.is("P13 the other stays", x.now(10), 0);
    }

    private static void dues() {
        int[] formats = {0, 1, 1, 1};
        int[] places = {4, 2, 4, 8};
        for (int r = 0; r < 4; r++) {
            RingMarks x = Due.ring(formats[r], places[r], 0);
            int m = x.count(3);
            for (int event = -1; event <= m; event++) {
                for (int old = -1; old <= m; old++) {
                    for (int now = -1; now <= m; now++) {
                        Due.is("P25 due " + event + " " + old + " " + now, x.due(event, old, now), passed(event, old, now, m));
                    }
                }
            }
        }
    }

    /** The event is passed, if it is met on the way from old up to but not on new. */
    private static int passed(int event, int old, int now, int m) {
        if (Math.min(event, Math.min(old, now)) < 0 || Math.max(event, Math.max(old, now)) >= m) {
            return -1;
        }
        for (int p = old; p != now; p = (p + 1) % m) {
            if (p == event) {
                return 1;
            }
        }
        return 0;
    }
}
