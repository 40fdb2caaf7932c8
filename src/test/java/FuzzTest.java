import java.lang.reflect.InvocationTargetException;
import java.lang.reflect.Method;
import java.lang.reflect.Modifier;
import java.util.ArrayList;
import java.util.Comparator;
import java.util.List;
import java.util.Random;

/** All calls, in any order, with any arguments: none may throw, and the same calls give the same answers. */
public final class FuzzTest {
    private static final String[] TEXTS = {"r5w7", "r 1 r2 w3", "w1", "r1r1r1r1", "w9r9", "r1w1w2w3w4w5w6w7", "add;read;tell;",
        "add;kick;add;tell;", "drain;arm;again;sleep;", "drain;sleep;", "\0\1\0\1\1\0", "r1000", ";", " "};

    public static void main(String[] args) throws IllegalAccessException {
        List<Method> calls = new ArrayList<>();
        for (Method m : RingMarks.class.getDeclaredMethods()) {
            if (Modifier.isPublic(m.getModifiers())) {
                calls.add(m);
            }
        }
        calls.sort(Comparator.comparing(Method::getName));
        Due.is("all calls", calls.size(), 37 - 1);
        for (int seed = 0; seed < 3000; seed++) {
            long one = run(calls, seed);
            if (seed % 10 == 0) {
                Due.is("the same answers again", run(calls, seed), one);
            }
        }
        Due.close("FuzzTest");
    }

    private static long run(List<Method> calls, int seed) throws IllegalAccessException {
        Random random = new Random(seed);
        RingMarks x = new RingMarks();
        x.setup(random.nextInt(2), 2 << random.nextInt(3), random.nextInt(8));
        long answers = 0;
        for (int k = 0; k < 500; k++) {
            if (random.nextInt(4) == 0) {
                x.end(0);
                Due.feed(x, TEXTS[random.nextInt(TEXTS.length)]);
            }
            Method m = calls.get(random.nextInt(calls.size()));
            if (m.getName().equals("setup") && random.nextInt(10) != 0) {
                continue;
            }
            Object[] with = new Object[m.getParameterCount()];
            for (int i = 0; i < with.length; i++) {
                with[i] = some(random);
            }
            try {
                answers = answers * 31 + m.invoke(x, with).hashCode();
            } catch (InvocationTargetException e) {
                Due.is("seed " + seed + ", " + m.getName() + " threw " + e.getCause(), 1, 0);
            }
        }
        return answers;
    }

    private static int some(Random random) {
        int[] far = {Integer.MIN_VALUE, Integer.MIN_VALUE + 1, -1000, -1, 31, 99, 500, 999, 1 << 16, Integer.MAX_VALUE};
        return switch (random.nextInt(12)) {
            case 0 -> far[random.nextInt(far.length)];
            case 1 -> random.nextInt();
            case 2 -> random.nextInt(32);
            default -> random.nextInt(4);
        };
    }
}
