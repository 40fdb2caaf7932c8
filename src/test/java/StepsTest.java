import java.util.Arrays;
import java.util.HashMap;
import java.util.HashSet;
import java.util.Map;
import java.util.Random;
import java.util.Set;

/** Promises 26 to 33, against a plain going through of all interleavings. */
public final class StepsTest {
    private static final String[] DRIVER = {"add", "read", "tell", "kick"};
    private static final String[] DEVICE = {"drain", "arm", "again", "sleep"};

    public static void main(String[] args) {
        noPrograms();
        aNoticeCanBeMissed();
        eachStep();
        plays();
        largest();
        manyPrograms();
        Due.close("StepsTest");
    }

    private static void noPrograms() {
        RingMarks x = new RingMarks();
        Due.is("P27 the first one", x.states(), 1);
        Due.is("P28 none", x.missed(), -1);
        Due.is("P29 ahead of any", x.missedBy(0), -1);
        Due.is("P30 none", x.misses(), 0);
        Due.is("P33 notices", x.notices(0) + x.notices(1), 0);
        Due.is("P33 another what", x.notices(2) + x.notices(-1), -2);
        for (int what = 0; what <= 9; what++) {
            Due.is("P32 first", x.played(what), 0);
        }
        Due.is("P32 another what", x.played(10) + x.played(-1), -2);
    }

    private static void aNoticeCanBeMissed() {
        RingMarks x = new RingMarks();
        Due.steps(x, "add;read;tell;", 0);
        Due.steps(x, "drain;arm;again;sleep;", 1);
        Due.is("P28 looked at again: none", x.missed(), -1);
        Due.steps(x, "add;read;tell;add;read;tell;", 0);
        Due.steps(x, "drain;arm;sleep;", 1);
        Due.is("P28 not looked at again", x.missed(), 11);
        String by = "";
        for (int i = 0; i < 11; i++) {
            by += x.missedBy(i);
        }
        Due.is("P29 by these", by.equals("10001110001"), true);
        Due.is("P29 no more", x.missedBy(11), -1);
        Due.is("P29 below 0", x.missedBy(-1), -1);
        Due.steps(x, "", 0);
        Due.is("P29 only missed() tells it", x.missedBy(10), 1);
        Due.is("P28 none", x.missed(), -1);
        Due.is("P29 by the latest that was not NONE", x.missedBy(10), 1);
    }

    private static void eachStep() {
        RingMarks x = new RingMarks();
        Due.steps(x, "kick;kick;add;add;tell;read;tell;", 0);
        Due.steps(x, "sleep;drain;arm;", 1);
        go(x, "00", 2);
        numbers(x, 2, 0, 0, 0, 0, 0, 0, 1, 2, 0);
        go(x, "001", 3);
        numbers(x, 2, 1, 0, 0, 0, 0, 0, 0, 2, 0);
        go(x, "00001", 5);
        numbers(x, 4, 1, 2, 0, 0, 0, 0, 0, 2, 0);
        go(x, "0000111", 7);
        numbers(x, 4, 0, 2, 2, 2, 0, 0, 0, 2, 0);
        go(x, "00001110", 8);
        numbers(x, 5, 0, 2, 2, 2, 0, 2, 1, 3, 0);
        go(x, "0000111000", 10);
        numbers(x, 7, 0, 2, 2, 2, 2, 2, 1, 3, 0);
        go(x, "00001110000", 10);
        go(x, "1", 0);
        Due.steps(x, "add;", 0);
        numbers(x, 0, 0, 0, 0, 0, 0, 0, 0, 0, 0);
        go(x, "0", 1);
        numbers(x, 1, 0, 1, 0, 0, 0, 0, 0, 0, 1);
        Due.is("P26 a fault", Due.steps(x, "x", 0), -1000);
        numbers(x, 1, 0, 1, 0, 0, 0, 0, 0, 0, 1);
        Due.steps(x, "again;arm;", 1);
        numbers(x, 0, 0, 0, 0, 0, 0, 0, 0, 0, 0);
        go(x, "01", 2);
        numbers(x, 1, 0, 1, 0, 0, 0, 0, 0, 0, 0);
        go(x, "101", 3);
        numbers(x, 1, 0, 1, 0, 0, 0, 0, 0, 0, 0);
        go(x, "1", 1);
        numbers(x, 0, 1, 0, 0, 0, 0, 0, 0, 0, 0);
    }

    private static void go(RingMarks x, String sides, int done) {
        byte[] bytes = new byte[sides.length()];
        for (int k = 0; k < bytes.length; k++) {
            bytes[k] = (byte) (sides.charAt(k) - '0');
        }
        Due.feed(x, bytes);
        Due.is("P31 play " + sides, x.play(), done);
        Due.is("P31 the tape is empty then", x.count(4), 0);
    }

    private static void numbers(RingMarks x, int... want) {
        for (int what = 0; what < want.length; what++) {
            Due.is("P32 played " + what, x.played(what), want[what]);
        }
    }

    private static void plays() {
        RingMarks x = new RingMarks();
        Due.steps(x, "add;add;", 0);
        Due.steps(x, "drain;", 1);
        Due.feed(x, new byte[] {0, 1, 2, 0});
        Due.is("P31 another byte", x.play(), 2);
        Due.feed(x, new byte[] {0, (byte) 255, 0});
        Due.is("P31 another byte", x.play(), 1);
        Due.feed(x, new byte[] {'0'});
        Due.is("P31 a digit is another byte", x.play(), 0);
        byte[] long1 = new byte[100];
        Arrays.fill(long1, (byte) 1);
        Due.feed(x, long1);
        Due.is("P31 100 steps of a device", x.play(), 100);
        Due.is("P31 an empty tape", x.play(), 0);
        numbers(x, 0, 0, 0, 0, 0, 0, 0, 0, 0, 0);
    }

    /** A climb over many programs found none with more states than these: far below 4000. */
    private static void largest() {
        String[] driver = "kick add add add read add add add".split(" ");
        String[] device = "drain arm drain again sleep".split(" ");
        RingMarks x = new RingMarks();
        Due.steps(x, text(driver), 0);
        Due.steps(x, text(device), 1);
        Oracle o = new Oracle(driver, device);
        Due.is("P27 the most", x.states(), o.states());
        Due.is("P27 the most", x.states(), 1486);
        Due.is("P30 the most", x.misses(), o.misses);
        Due.steps(x, "add;", 0);
        Due.is("P27 fewer again", x.states(), new Oracle(new String[] {"add"}, device).states());
    }

    private static void manyPrograms() {
        Random random = new Random(5);
        RingMarks x = new RingMarks();
        for (int run = 0; run < 1500; run++) {
            String[] driver = words(random, DRIVER, 9);
            String[] device = words(random, DEVICE, 6);
            // Programs follow one another on the same object, too.
            x = run % 4 == 0 ? new RingMarks() : x;
            String told = String.join(" ", driver) + " / " + String.join(" ", device);
            Due.is("P26 " + told, Due.steps(x, text(driver), 0), driver.length);
            Due.is("P26 " + told, Due.steps(x, text(device), 1), device.length);
            Oracle o = new Oracle(driver, device);
            boolean small = o.states() <= 4000;
            Due.is("P27 " + told, x.states(), small ? o.states() : -1);
            Due.is("P30 " + told, x.misses(), small ? o.misses : -1);
            Due.is("P33 fewest " + told, x.notices(0), small ? o.fewest : -1);
            Due.is("P33 most " + told, x.notices(1), small ? o.most : -1);
            String row = small ? o.row : null;
            Due.is("P28 " + told, x.missed(), row == null ? -1 : row.length());
            for (int i = 0; row != null && i <= row.length(); i++) {
                Due.is("P29 " + told, x.missedBy(i), i < row.length() ? row.charAt(i) - '0' : -1);
            }
            if (row != null && row.length() <= 100) {
                go(x, row, row.length());
                Due.is("P32 missed " + told, x.played(9), 1);
            }
        }
    }

    private static String[] words(Random random, String[] known, int below) {
        String[] words = new String[random.nextInt(below)];
        for (int k = 0; k < words.length; k++) {
            words[k] = known[random.nextInt(known.length)];
        }
        return words;
    }

    private static String text(String[] words) {
        StringBuilder text = new StringBuilder();
        for (String w : words) {
            text.append(w).append(';');
        }
        return text.toString();
    }

    /** Level by level, with the first row of sides to each state written out. */
    static final class Oracle {
        private final String[] driver;
        private final String[] device;
        private final Set<String> all = new HashSet<>();
        int misses = 0;
        int fewest = Integer.MAX_VALUE;
        int most = -1;
        String row = null;

        Oracle(String[] driver, String[] device) {
            this.driver = driver;
            this.device = device;
            Map<String, String> level = new HashMap<>();
            level.put("0,0,0,0,0,0,0,0,0", "");
            while (!level.isEmpty()) {
                all.addAll(level.keySet());
                String firstRow = null;
                Map<String, String> next = new HashMap<>();
                for (Map.Entry<String, String> e : level.entrySet()) {
                    int[] s = numbers(e.getKey());
                    if (judge(s) && (firstRow == null || e.getValue().compareTo(firstRow) < 0)) {
                        firstRow = e.getValue();
                    }
                    if (s[0] < driver.length) {
                        put(next, drive(s.clone()), e.getValue() + "0");
                    }
                    if (canServe(s)) {
                        put(next, serve(s.clone()), e.getValue() + "1");
                    }
                }
                row = row == null ? firstRow : row;
                level = next;
            }
        }

        int states() {
            return all.size();
        }

        private void put(Map<String, String> next, int[] s, String by) {
            StringBuilder key = new StringBuilder().append(s[0]);
            for (int k = 1; k < s.length; k++) {
                key.append(',').append(s[k]);
            }
            if (!all.contains(key.toString())) {
                next.merge(key.toString(), by, (a, b) -> a.compareTo(b) <= 0 ? a : b);
            }
        }

        private static int[] numbers(String key) {
            return Arrays.stream(key.split(",")).mapToInt(Integer::parseInt).toArray();
        }

        // 0 driver at, 1 device at, 2 there, 3 seen, 4 event, 5 looked, 6 told, 7 waits, 8 sent
        private boolean judge(int[] s) {
            if (s[0] < driver.length) {
                return false;
            }
            fewest = Math.min(fewest, s[8]);
            most = Math.max(most, s[8]);
            boolean missed = !canServe(s) && s[3] != s[2];
            misses += missed ? 1 : 0;
            return missed;
        }

        private boolean canServe(int[] s) {
            return device.length > 0 && !(device[s[1]].equals("sleep") && s[7] == 0);
        }

        private int[] drive(int[] s) {
            boolean sends = false;
            switch (driver[s[0]]) {
                case "add" -> s[2]++;
                case "read" -> s[5] = s[4];
                case "tell" -> {
                    sends = Math.floorMod(s[2] - s[5] - 1, 16) < Math.floorMod(s[2] - s[6], 16);
                    s[6] = s[2];
                }
                default -> sends = true;
            }
            if (sends) {
                s[7] = 1;
                s[8]++;
            }
            s[0]++;
            return s;
        }

        private int[] serve(int[] s) {
            int next = (s[1] + 1) % device.length;
            switch (device[s[1]]) {
                case "drain" -> s[3] = s[2];
                case "arm" -> s[4] = s[3];
                case "again" -> next = s[3] != s[2] ? 0 : next;
                default -> s[7] = 0;
            }
            s[1] = next;
            return s;
        }
    }
}
