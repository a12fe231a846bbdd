import java.util.ArrayList;
import java.util.Comparator;
import java.util.List;
import java.util.Map;
import java.util.TreeMap;
import java.util.TreeSet;

/**
 * The document told once more, word by word and with the Java library, so that random runs have
 * answers to be compared with. It keeps what the class can do without: a transaction's
 * participants, the marks that a PREPARED carries, and what has been written apart from the locks.
 */
final class PlainModel {
    private record Message(String kind, int t, int from, int to, int mark, int arrival, int order) {}

    private final int e;
    private int now = 0;
    private int clockOfAges = 0;
    private int sent = 0;
    private final int[][] clocks = new int[3][2];
    private final int[] delays = new int[3];
    private final int[] bounds = new int[3];
    private final boolean[] up = {true, true, true};
    private final List<TreeMap<Integer, Integer>> versions = new ArrayList<>();
    private final List<TreeMap<Integer, Integer>> marksAt = new ArrayList<>();
    private final List<TreeSet<Integer>> shared = new ArrayList<>();
    private final Integer[] exclusive = new Integer[9];
    private final int[] states = new int[5];
    private final int[] ages = new int[5];
    private final int[] floors = new int[5];
    private final int[] stamps = new int[5];
    private final int[] ends = new int[5];
    private final List<TreeMap<Integer, Integer>> written = new ArrayList<>();
    private final List<TreeSet<Integer>> participants = new ArrayList<>();
    private final List<TreeMap<Integer, Integer>> prepared = new ArrayList<>();
    private final List<Message> mail = new ArrayList<>();

    PlainModel(int given) {
        e = given < 0 ? 0 : given > 20 ? 20 : given;
        for (int p = 0; p < 3; p++) {
            clocks[p][0] = e;
            clocks[p][1] = e;
            marksAt.add(new TreeMap<>());
        }
        for (int k = 0; k < 9; k++) {
            versions.add(new TreeMap<>(Map.of(0, 0)));
            shared.add(new TreeSet<>());
        }
        for (int t = 0; t < 5; t++) {
            written.add(new TreeMap<>());
            participants.add(new TreeSet<>());
            prepared.add(new TreeMap<>());
        }
    }

    boolean clock(int p, int a, int b) {
        if (p < 0 || p > 2 || a < 0 || a > e || b < 0 || b > e) {
            return false;
        }
        clocks[p] = new int[] {a, b};
        return true;
    }

    boolean delay(int p, int d) {
        if (p < 0 || p > 2 || d < 0 || d > 9) {
            return false;
        }
        delays[p] = d;
        return true;
    }

    boolean power(int p, boolean on) {
        if (p < 0 || p > 2 || up[p] == on) {
            return false;
        }
        up[p] = on;
        return true;
    }

    boolean begin(int t) {
        if (t < 0 || t > 4 || states[t] == 1 || states[t] == 2 || states[t] == 3) {
            return false;
        }
        if (states[t] == 4 && !sitesWithLocks(t).isEmpty()) {
            return false;
        }
        states[t] = 1;
        ages[t] = ++clockOfAges;
        written.get(t).clear();
        participants.get(t).clear();
        prepared.get(t).clear();
        return true;
    }

    long read(int t, int k) {
        if (t < 0 || t > 4 || states[t] != 1 || k < 0 || k > 8 || !lockShared(t, k)) {
            return 1L << 40;
        }
        Integer own = written.get(t).get(k);
        return own != null ? own : versions.get(k).lastEntry().getValue();
    }

    boolean write(int t, int k, int v) {
        if (t < 0 || t > 4 || states[t] != 1 || k < 0 || k > 8 || !lockExclusive(t, k)) {
            return false;
        }
        written.get(t).put(k, v);
        return true;
    }

    boolean commit(int t) {
        if (t < 0 || t > 4 || states[t] != 1) {
            return false;
        }
        TreeSet<Integer> sites = sitesWithLocks(t);
        if (sites.isEmpty() || !up[sites.first()]) {
            return false;
        }
        participants.get(t).addAll(sites);
        int coordinator = sites.first();
        states[t] = 2;
        floors[t] = now + clocks[coordinator][1] + 1;
        for (int p : sites.tailSet(coordinator, false)) {
            post("PREPARE", t, coordinator, p, 0);
        }
        stampIfAllPrepared(t);
        return true;
    }

    boolean abort(int t) {
        if (t < 0 || t > 4 || states[t] != 1) {
            return false;
        }
        dropAll(t);
        return true;
    }

    long readAt(int k, int r) {
        if (k < 0 || k > 8 || !ready(k % 3, r)) {
            return 1L << 40;
        }
        bounds[k % 3] = Math.max(bounds[k % 3], r);
        Map.Entry<Integer, Integer> seen = versions.get(k).floorEntry(r);
        return seen == null ? 1L << 41 : seen.getValue();
    }

    int step(int n) {
        if (n < 0 || n > 500) {
            return -1;
        }
        int committed = 0;
        for (int i = 0; i < n; i++) {
            now++;
            List<Message> arriving = new ArrayList<>(mail);
            arriving.removeIf(m -> m.arrival() > now || !up[m.to()]);
            arriving.sort(Comparator.comparingInt(Message::arrival).thenComparingInt(Message::order));
            mail.removeAll(arriving);
            arriving.forEach(this::arrive);
            for (int t = 0; t < 5; t++) {
                committed += endOfWaiting(t) ? 1 : 0;
            }
        }
        return committed;
    }

    int now() {
        return now;
    }

    int state(int t) {
        return t < 0 || t > 4 ? -1 : states[t];
    }

    int stamp(int t) {
        return state(t) == 3 || state(t) == 4 ? stamps[t] : -1;
    }

    int end(int t) {
        return state(t) == 4 ? ends[t] : -1;
    }

    int marks(int p) {
        if (p < 0 || p > 2 || marksAt.get(p).isEmpty()) {
            return 0;
        }
        return marksAt.get(p).size() + 8 * new TreeSet<>(marksAt.get(p).values()).first();
    }

    int safe(int p) {
        if (p < 0 || p > 2 || !up[p]) {
            return -1;
        }
        int r = now + clocks[p][1];
        while (!ready(p, r)) {
            r--;
        }
        return r;
    }

    int bound(int p) {
        return p < 0 || p > 2 ? -1 : bounds[p];
    }

    int holders(int k) {
        if (k < 0 || k > 8) {
            return 0;
        }
        int bits = exclusive[k] == null ? 0 : 32 + (1 << exclusive[k]);
        for (int t : shared.get(k)) {
            bits += 1 << t;
        }
        return bits;
    }

    int version(int k, int i) {
        if (k < 0 || k > 8 || i < 0 || i >= versions.get(k).size()) {
            return -1;
        }
        return new ArrayList<>(versions.get(k).descendingKeySet()).get(i);
    }

    int messages() {
        return mail.size();
    }

    private boolean ready(int p, int r) {
        return up[p] && r <= now + clocks[p][1] && marksAt.get(p).values().stream().allMatch(m -> r < m);
    }

    private TreeSet<Integer> sitesWithLocks(int t) {
        TreeSet<Integer> sites = new TreeSet<>();
        for (int k = 0; k < 9; k++) {
            if (shared.get(k).contains(t) || exclusive[k] != null && exclusive[k] == t) {
                sites.add(k % 3);
            }
        }
        return sites;
    }

    private boolean lockShared(int t, int k) {
        if (!up[k % 3]) {
            return false;
        }
        Integer other = exclusive[k];
        if (shared.get(k).contains(t) || other != null && other == t) {
            return true;
        }
        TreeSet<Integer> conflicting = new TreeSet<>();
        if (other != null) {
            conflicting.add(other);
        }
        if (!pushAside(t, conflicting)) {
            return false;
        }
        shared.get(k).add(t);
        return true;
    }

    private boolean lockExclusive(int t, int k) {
        if (!up[k % 3]) {
            return false;
        }
        if (exclusive[k] != null && exclusive[k] == t) {
            return true;
        }
        TreeSet<Integer> conflicting = new TreeSet<>(shared.get(k));
        if (exclusive[k] != null) {
            conflicting.add(exclusive[k]);
        }
        conflicting.remove(t);
        if (!pushAside(t, conflicting)) {
            return false;
        }
        shared.get(k).remove(t);
        exclusive[k] = t;
        return true;
    }

    private boolean pushAside(int t, TreeSet<Integer> conflicting) {
        for (int other : conflicting) {
            if (ages[other] < ages[t] || states[other] != 1) {
                return false;
            }
        }
        conflicting.forEach(this::dropAll);
        return true;
    }

    private void dropAll(int t) {
        for (int p = 0; p < 3; p++) {
            dropLocksAt(t, p);
        }
        written.get(t).clear();
        states[t] = 5;
    }

    private void dropLocksAt(int t, int p) {
        for (int k = 0; k < 9; k++) {
            if (k % 3 == p) {
                shared.get(k).remove(t);
                exclusive[k] = exclusive[k] != null && exclusive[k] == t ? null : exclusive[k];
            }
        }
    }

    private void post(String kind, int t, int from, int to, int mark) {
        mail.add(new Message(kind, t, from, to, mark, now + 1 + delays[from] + delays[to], sent++));
    }

    private void arrive(Message m) {
        switch (m.kind()) {
            case "PREPARE" -> {
                int mark = Math.max(now + clocks[m.to()][1], bounds[m.to()] + 1);
                marksAt.get(m.to()).put(m.t(), mark);
                bounds[m.to()] = mark;
                post("PREPARED", m.t(), m.to(), m.from(), mark);
            }
            case "PREPARED" -> {
                prepared.get(m.t()).put(m.from(), m.mark());
                stampIfAllPrepared(m.t());
            }
            default -> finish(m.t(), m.to());
        }
    }

    private void stampIfAllPrepared(int t) {
        if (prepared.get(t).size() + 1 < participants.get(t).size()) {
            return;
        }
        int coordinator = participants.get(t).first();
        TreeSet<Integer> candidates = new TreeSet<>(prepared.get(t).values());
        candidates.add(floors[t]);
        candidates.add(bounds[coordinator] + 1);
        stamps[t] = candidates.last();
        marksAt.get(coordinator).put(t, stamps[t]);
        bounds[coordinator] = stamps[t];
        states[t] = 3;
    }

    private boolean endOfWaiting(int t) {
        if (states[t] != 3) {
            return false;
        }
        int coordinator = participants.get(t).first();
        if (!up[coordinator] || now - clocks[coordinator][0] <= stamps[t]) {
            return false;
        }
        states[t] = 4;
        ends[t] = now;
        finish(t, coordinator);
        for (int p : participants.get(t).tailSet(coordinator, false)) {
            post("COMMIT", t, coordinator, p, 0);
        }
        return true;
    }

    private void finish(int t, int p) {
        written.get(t).forEach((k, v) -> {
            if (k % 3 == p) {
                versions.get(k).put(stamps[t], v);
                if (versions.get(k).size() > 4) {
                    versions.get(k).pollFirstEntry();
                }
            }
        });
        dropLocksAt(t, p);
        marksAt.get(p).remove(t);
        bounds[p] = Math.max(bounds[p], stamps[t]);
    }
}
