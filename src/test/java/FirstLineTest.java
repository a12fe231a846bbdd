import java.util.ArrayList;
import java.util.HashMap;
import java.util.List;
import java.util.Map;
import java.util.Random;
import java.util.TreeMap;

/**
 * What the document's first line says, without a model of how it comes about: random runs, always
 * the same ones, keep a list of what was written by whom, and the answers are compared with it.
 */
public final class FirstLineTest {
    private static final Due DUE = new Due();
    private static final int RUNS = 4000;
    private static final int MOST_CALLS = 512;
    private static final int MOST_CALLS_AT_ONCE = 1 + 3 * 5;
    private static final int VERSIONS_KEPT = 4;

    private record Read(int k, int r, long answer, int newerCommits) {}

    private static int readsSeen = 0;
    private static int readsLost = 0;
    private static int committed = 0;

    private final Random random;
    private final WaitedCommits x;
    private final boolean hectic;
    private int calls = 0;
    private final List<TreeMap<Integer, Long>> commits = new ArrayList<>();
    private final List<Read> reads = new ArrayList<>();
    private final List<Map<Integer, Integer>> written = new ArrayList<>();
    private final List<Map<Integer, Long>> found = new ArrayList<>();
    private final List<Read> foundByCommitted = new ArrayList<>();
    private final int[] committing = new int[5];
    private final boolean[] underWay = new boolean[5];

    private FirstLineTest(int seed) {
        random = new Random(seed);
        x = new WaitedCommits(random.nextInt(5));
        hectic = random.nextBoolean();
        for (int k = 0; k < 9; k++) {
            commits.add(new TreeMap<>(Map.of(0, 0L)));
        }
        for (int t = 0; t < 5; t++) {
            written.add(new HashMap<>());
            found.add(new HashMap<>());
        }
    }

    public static void main(String[] args) {
        for (int run = 0; run < RUNS; run++) {
            DUE.promise("seed " + run);
            FirstLineTest one = new FirstLineTest(run);
            one.run();
            one.readsSawExactlyTheCommits();
            one.committedOnesReadAtTheirStamp();
        }
        DUE.promise("the runs");
        DUE.yes("many reads at a time", readsSeen > RUNS);
        DUE.yes("some lost ones", readsLost > 0);
        DUE.yes("many commits", committed > RUNS);
        DUE.close();
    }

    private void run() {
        while (calls < MOST_CALLS - MOST_CALLS_AT_ONCE) {
            calls++;
            call(random.nextInt(5), random.nextInt(hectic ? 4 : 9), random.nextInt(3));
        }
    }

    private void call(int t, int k, int p) {
        switch (random.nextInt(20)) {
            case 0 -> x.clock(p, random.nextInt(5), random.nextInt(5));
            case 1 -> x.delay(p, random.nextInt(4));
            case 2 -> x.power(p, random.nextInt(4) != 0);
            case 3, 4, 5 -> begin(t);
            case 6, 7 -> read(t, k);
            case 8, 9, 10 -> write(t, k, random.nextInt());
            case 11, 12, 13 -> commit(t);
            case 14, 15, 16 -> readAt(k, x.now() + random.nextInt(20) - 14);
            default -> step(random.nextInt(hectic ? 3 : 12));
        }
    }

    private void begin(int t) {
        if (x.begin(t)) {
            written.get(t).clear();
            found.get(t).clear();
        }
    }

    private void read(int t, int k) {
        long answer = x.read(t, k);
        if (answer != WaitedCommits.REFUSED && !written.get(t).containsKey(k)) {
            found.get(t).put(k, answer);
        }
    }

    private void write(int t, int k, int v) {
        if (x.write(t, k, v)) {
            written.get(t).put(k, v);
        }
    }

    private void commit(int t) {
        if (x.commit(t)) {
            committing[t] = x.now();
            underWay[t] = true;
            calls++;
        }
    }

    private void readAt(int k, int r) {
        calls++;
        long answer = x.readAt(k, r);
        if (answer != WaitedCommits.REFUSED) {
            reads.add(new Read(k, r, answer, commits.get(k).tailMap(r, false).size()));
        }
    }

    private void step(int n) {
        int before = committed;
        int ended = x.step(n);
        for (int t = 0; t < 5; t++) {
            calls += underWay[t] ? 1 : 0;
            if (underWay[t] && x.state(t) == 4) {
                underWay[t] = false;
                calls += 2;
                keep(t, x.stamp(t), x.end(t));
            }
        }
        DUE.is("step: how many were committed", ended, committed - before);
    }

    private void keep(int t, int stamp, int end) {
        committed++;
        DUE.yes("stamp " + stamp + " after the call of commit at " + committing[t], stamp > committing[t]);
        DUE.yes("stamp " + stamp + " surely past at the end " + end, stamp < end);
        written.get(t).forEach((k, v) -> {
            DUE.no("another commit of key " + k + " at " + stamp, commits.get(k).containsKey(stamp));
            commits.get(k).put(stamp, (long) v);
        });
        found.get(t).forEach((k, v) -> foundByCommitted.add(new Read(k, stamp - 1, v, 0)));
    }

    // At the end of the run, since a commit that comes later must not be one that a read missed.
    private void readsSawExactlyTheCommits() {
        for (Read read : reads) {
            String call = "readAt(" + read.k() + ", " + read.r() + ")";
            if (read.answer() == WaitedCommits.LOST) {
                readsLost++;
                DUE.yes(call + " is lost", read.r() < 0 || read.newerCommits() >= VERSIONS_KEPT);
            } else {
                readsSeen++;
                DUE.is(call, read.answer(), valueAt(read));
            }
        }
    }

    private void committedOnesReadAtTheirStamp() {
        for (Read read : foundByCommitted) {
            DUE.is("read of key " + read.k() + " by the one stamped " + (read.r() + 1), read.answer(), valueAt(read));
        }
    }

    private long valueAt(Read read) {
        Map.Entry<Integer, Long> newest = commits.get(read.k()).floorEntry(read.r());
        return newest == null ? WaitedCommits.LOST : newest.getValue();
    }
}
