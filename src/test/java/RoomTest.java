import java.lang.management.ManagementFactory;

/** All calls of a run share one room: an object makes its rows once, and 512 calls of any kind make no others. */
public final class RoomTest {
    /** One object with both images and the rows of a search has some 33,000 elements of up to four bytes. */
    private static final long MOST_BYTES = 150_000;
    private static final int CALLS = 512;

    private interface Call {
        int go(RingMarks x, int k);
    }

    public static void main(String[] args) {
        if (!(ManagementFactory.getThreadMXBean() instanceof com.sun.management.ThreadMXBean bean)) {
            System.out.println("RoomTest: nothing here tells what is made");
            return;
        }
        long me = Thread.currentThread().getId();
        Call[] calls = calls();
        // The first round loads classes; what they make is not the object's.
        for (int round = 0; round < 2; round++) {
            for (int c = 0; c < calls.length; c++) {
                long before = bean.getThreadAllocatedBytes(me);
                RingMarks x = new RingMarks();
                x.setup(c % 2, 8, 6);
                for (int k = 0; k < CALLS; k++) {
                    calls[c].go(x, k);
                }
                long made = bean.getThreadAllocatedBytes(me) - before;
                if (round == 1) {
                    Due.is("room of " + c + ", " + made + " bytes", made < MOST_BYTES, true);
                }
            }
        }
        Due.close("RoomTest");
    }

    private static Call[] calls() {
        return new Call[] {
            (x, k) -> x.drawn(60, k),
            (x, k) -> k % 2 == 0 ? x.drawn(60, k) : x.reset(),
            (x, k) -> x.image(k & 1) ? 1 : 0,
            (x, k) -> k % 2 == 0 ? x.image(k >> 1 & 1) ? 1 : 0 : x.restore(k >> 2 & 1) ? 1 : 0,
            (x, k) -> x.setup(k & 1, 2 << k % 3, k & 7),
            (x, k) -> k % 3 == 0 ? x.feed(0x72317732, 0x20202020, 0x77332020, 0x20202020, 0x77342020) : x.offer(k & 1),
            (x, k) -> programs(x, k),
            (x, k) -> x.states() + x.missed() + x.misses() + x.notices(k & 1),
            (x, k) -> k % 2 == 0 ? x.feed(0x00010001, 0, 0, 0, 0) : x.play(),
            (x, k) -> x.fetch() + x.reap() + x.kick() + x.signal() + x.chain(k & 7) + x.finish(k, 0) + x.batch(k, 0),
        };
    }

    /** Other steps each time, so that all states are gone through anew. */
    private static int programs(RingMarks x, int k) {
        switch (k & 3) {
            case 0:
                x.feed(0x6164643B, 0x6B69636B, 0x3B616464, 0x3B206164, 0x643B2020);
                return x.steps(0);
            case 1:
                x.feed(0x64726169, 0x6E3B6172, 0x6D3B2020, 0x736C6565, 0x703B2020);
                return x.steps(1);
            case 2:
                return x.states();
            default:
                return x.missed();
        }
    }
}
