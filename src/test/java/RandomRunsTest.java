import java.util.HashMap;
import java.util.Map;
import java.util.Random;

/**
 * All promises together: random runs, always the same ones, in which every answer is compared
 * with PlainModel's; and what the document's first line says of reads at a time, that such a
 * read never answers anything else later, unless its version is lost.
 */
public final class RandomRunsTest {
    private static final int RUNS = 6000;
    private static final int MOST_CALLS = 512;
    private static final int CALLS_OF_A_FULL_LOOK = 71;
    private static final int[] WILD = {Integer.MIN_VALUE, -1, 3, 5, 9, 10, 21, 501, Integer.MAX_VALUE};

    private final Due due;
    private final Random random;
    private final WaitedCommits x;
    private final PlainModel model;
    private final Map<String, Long> seen = new HashMap<>();
    private final int wildOneIn;
    private final int looksInTen;
    private int calls = 0;

    private RandomRunsTest(Due due, long seed) {
        this.due = due;
        random = new Random(seed);
        int e = random.nextInt(4) == 0 ? random.nextInt(30) - 4 : random.nextInt(4);
        x = new WaitedCommits(e);
        model = new PlainModel(e);
        wildOneIn = random.nextBoolean() ? 40 : 1000;
        looksInTen = random.nextInt(8);
        due.promise("seed " + seed + ", e " + e);
    }

    public static void main(String[] args) {
        Due due = new Due();
        int[] reached = new int[6];
        for (int run = 0; run < RUNS; run++) {
            RandomRunsTest one = new RandomRunsTest(due, run);
            one.run();
            for (int t = 0; t < 5; t++) {
                reached[one.model.state(t)]++;
            }
        }
        due.promise("the random runs");
        for (int s = 1; s < 6; s++) {
            due.yes("state " + s + " reached", reached[s] > 0);
        }
        anyCallsEver(new RandomRunsTest(due, -1));
        due.close();
    }

    private void run() {
        while (calls < MOST_CALLS - CALLS_OF_A_FULL_LOOK) {
            if (random.nextInt(10) < looksInTen) {
                lookAtOne();
            } else {
                call();
            }
        }
        lookAtAll();
    }

    private int any(int bound) {
        return random.nextInt(wildOneIn) == 0 ? WILD[random.nextInt(WILD.length)] : random.nextInt(bound);
    }

    private void same(String call, long got, long want) {
        calls++;
        due.is(call, got, want);
    }

    private void same(String call, boolean got, boolean want) {
        same(call, got ? 1 : 0, want ? 1 : 0);
    }

    private void call() {
        int t = any(5);
        int k = any(9);
        int p = any(3);
        int v = random.nextInt();
        switch (random.nextInt(24)) {
            case 0 -> {
                int a = any(6);
                int b = any(6);
                same("clock", x.clock(p, a, b), model.clock(p, a, b));
            }
            case 1 -> {
                int d = any(random.nextInt(3) == 0 ? 10 : 3);
                same("delay", x.delay(p, d), model.delay(p, d));
            }
            case 2 -> {
                boolean on = random.nextInt(3) != 0;
                same("power", x.power(p, on), model.power(p, on));
            }
            case 3, 4, 5 -> same("begin", x.begin(t), model.begin(t));
            case 6, 7, 8 -> same("read", x.read(t, k), model.read(t, k));
            case 9, 10, 11, 12 -> same("write", x.write(t, k, v), model.write(t, k, v));
            case 13, 14, 15 -> same("commit", x.commit(t), model.commit(t));
            case 16 -> {
                if (random.nextInt(3) == 0) {
                    same("abort", x.abort(t), model.abort(t));
                }
            }
            case 17, 18, 19 -> readAt(k);
            default -> {
                int n = any(random.nextInt(100) == 0 ? 501 : random.nextInt(5) == 0 ? 30 : 3);
                same("step", x.step(n), model.step(n));
            }
        }
    }

    private void readAt(int k) {
        int near = model.now() + random.nextInt(12) - 6;
        int r = random.nextInt(3) == 0 ? any(model.now() + 8) : near;
        long got = x.readAt(k, r);
        same("readAt", got, model.readAt(k, r));
        if (got == WaitedCommits.REFUSED) {
            return;
        }
        Long before = seen.put(k + " at " + r, got);
        if (before != null && got != WaitedCommits.LOST) {
            due.is("the same read " + k + " at " + r, got, before);
        }
    }

    private void lookAtOne() {
        int n = any(9);
        int t = any(5);
        int p = any(3);
        switch (random.nextInt(10)) {
            case 0 -> same("now", x.now(), model.now());
            case 1 -> same("messages", x.messages(), model.messages());
            case 2 -> same("state", x.state(t), model.state(t));
            case 3 -> same("stamp", x.stamp(t), model.stamp(t));
            case 4 -> same("end", x.end(t), model.end(t));
            case 5 -> same("marks", x.marks(p), model.marks(p));
            case 6 -> same("safe", x.safe(p), model.safe(p));
            case 7 -> same("bound", x.bound(p), model.bound(p));
            case 8 -> same("holders", x.holders(n), model.holders(n));
            default -> same("version", x.version(n, t), model.version(n, t));
        }
    }

    private void lookAtAll() {
        same("now", x.now(), model.now());
        same("messages", x.messages(), model.messages());
        for (int t = 0; t < 5; t++) {
            same("state", x.state(t), model.state(t));
            same("stamp", x.stamp(t), model.stamp(t));
            same("end", x.end(t), model.end(t));
        }
        for (int p = 0; p < 3; p++) {
            same("marks", x.marks(p), model.marks(p));
            same("safe", x.safe(p), model.safe(p));
            same("bound", x.bound(p), model.bound(p));
        }
        for (int k = 0; k < 9; k++) {
            same("holders", x.holders(k), model.holders(k));
            for (int i = 0; i < 4; i++) {
                same("version", x.version(k, i), model.version(k, i));
            }
        }
    }

    /** No call may throw, for any arguments; after the 512th call the answers alone are free. */
    private static void anyCallsEver(RandomRunsTest one) {
        for (int i = 0; i < 200000; i++) {
            int a = one.any(9);
            int b = one.any(9);
            int c = one.any(9);
            one.x.clock(a, b, c);
            one.x.delay(a, b);
            one.x.power(a, b > 1);
            one.x.begin(a);
            one.x.read(a, b);
            one.x.write(a, b, c);
            one.x.commit(c);
            one.x.abort(one.any(50));
            one.x.readAt(a, one.random.nextInt());
            one.x.step(one.any(9));
            one.x.version(a, b);
            one.x.holders(a);
            one.x.stamp(b);
            one.x.end(b);
            one.x.marks(c);
            one.x.safe(c);
            one.x.bound(c);
        }
    }
}
