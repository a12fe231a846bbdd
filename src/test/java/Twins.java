import java.util.Arrays;
import java.util.Random;
import java.util.function.Supplier;
import java.util.function.ToLongFunction;

/**
 * Two objects led the same way, but that one gets a call more, which must change nothing: no look
 * at them and no later calls may tell them apart.
 */
final class Twins {
    private static final int SEEDS = 8;
    private static final int LATER_CALLS = 100;

    private final Due due;

    Twins(Due due) {
        this.due = due;
    }

    void refused(String call, Supplier<WaitedCommits> scene, ToLongFunction<WaitedCommits> made, long answer) {
        due.is(call, made.applyAsLong(scene.get()), answer);
        unchanged(call, scene, made);
    }

    void unchanged(String call, Supplier<WaitedCommits> scene, ToLongFunction<WaitedCommits> made) {
        boolean same = true;
        for (int seed = 0; seed < SEEDS && same; seed++) {
            WaitedCommits called = scene.get();
            WaitedCommits left = scene.get();
            made.applyAsLong(called);
            same = sameFaces(called, left) && sameLater(called, left, seed) && sameFaces(called, left);
        }
        due.yes("nothing changed by " + call, same);
    }

    private static boolean sameLater(WaitedCommits called, WaitedCommits left, int seed) {
        Random one = new Random(seed);
        Random other = new Random(seed);
        for (int i = 0; i < LATER_CALLS; i++) {
            if (anyCall(called, one) != anyCall(left, other)) {
                return false;
            }
        }
        return true;
    }

    private static boolean sameFaces(WaitedCommits called, WaitedCommits left) {
        return Arrays.equals(face(called), face(left));
    }

    private static long anyCall(WaitedCommits x, Random random) {
        int t = random.nextInt(5);
        int k = random.nextInt(9);
        int p = random.nextInt(3);
        int few = random.nextInt(7);
        return switch (random.nextInt(16)) {
            case 0 -> x.power(p, few > 2) ? 1 : 0;
            case 1, 2 -> x.begin(t) ? 1 : 0;
            case 3, 4 -> x.read(t, k);
            case 5, 6, 7 -> x.write(t, k, few) ? 1 : 0;
            case 8, 9, 10 -> x.commit(t) ? 1 : 0;
            case 11 -> x.readAt(k, x.now() - few);
            case 12 -> x.readAt(k, few);
            default -> x.step(few);
        };
    }

    private static long[] face(WaitedCommits x) {
        long[] seen = new long[71];
        int n = 0;
        seen[n++] = x.now();
        seen[n++] = x.messages();
        for (int t = 0; t < 5; t++) {
            seen[n++] = x.state(t);
            seen[n++] = x.stamp(t);
            seen[n++] = x.end(t);
        }
        for (int p = 0; p < 3; p++) {
            seen[n++] = x.marks(p);
            seen[n++] = x.safe(p);
            seen[n++] = x.bound(p);
        }
        for (int k = 0; k < 9; k++) {
            seen[n++] = x.holders(k);
            for (int i = 0; i < 4; i++) {
                seen[n++] = x.version(k, i);
            }
        }
        return seen;
    }
}
