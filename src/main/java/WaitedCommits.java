/** Follows ../shared/DOC.md; the names of fields and states are that document's terms. */
public final class WaitedCommits {
    public static final int NONE = -1;
    public static final long REFUSED = 1L << 40;
    public static final long LOST = 1L << 41;

    private static final int SITES = 3;
    private static final int KEYS = 9;
    private static final int TRANSACTIONS = 5;
    private static final int VERSIONS_KEPT = 4;
    private static final int GREATEST_E = 20;
    private static final int GREATEST_DELAY = 9;
    private static final int MOST_STEPS = 500;

    private static final int NOT_BEGUN = 0;
    private static final int ACTIVE = 1;
    private static final int PREPARING = 2;
    private static final int WAITING = 3;
    private static final int COMMITTED = 4;
    private static final int ABORTED = 5;

    private static final int UNLOCKED = 0;
    private static final int SHARED = 1;
    private static final int EXCLUSIVE = 2;

    private static final int NOTHING = 0;
    private static final int PREPARE = 1;
    private static final int PREPARED = 2;
    private static final int COMMIT = 3;

    private static final int MARKS_UNIT = 8;
    private static final int EXCLUSIVE_BIT = 32;

    private final int greatestError;
    private final Site[] sites = new Site[SITES];
    private final Key[] keys = new Key[KEYS];
    private final Transaction[] transactions = new Transaction[TRANSACTIONS];
    // A transaction never has more than one message under way between its coordinator and one
    // other participant, so a slot for each transaction and site holds all messages.
    private final Message[] slots = new Message[TRANSACTIONS * SITES];
    private int time = 0;
    private int begun = 0;
    private int sent = 0;
    private int underWay = 0;

    private static final class Site {
        private int before;
        private int after;
        private int delay = 0;
        private boolean isUp = true;
        private int bound = 0;

        private Site(int error) {
            before = error;
            after = error;
        }

        private void raiseBound(int least) {
            bound = Math.max(bound, least);
        }
    }

    private static final class Key {
        // The newest version stands at 0.
        private final int[] values = new int[VERSIONS_KEPT];
        private final int[] stamps = new int[VERSIONS_KEPT];
        private int count = 1;

        private void add(int value, int stamp) {
            for (int i = VERSIONS_KEPT - 1; i > 0; i--) {
                values[i] = values[i - 1];
                stamps[i] = stamps[i - 1];
            }
            values[0] = value;
            stamps[0] = stamp;
            count = Math.min(count + 1, VERSIONS_KEPT);
        }

        private long valueAt(int r) {
            for (int i = 0; i < count; i++) {
                if (stamps[i] <= r) {
                    return values[i];
                }
            }
            return LOST;
        }
    }

    private static final class Transaction {
        private int state = NOT_BEGUN;
        private int birth = 0;
        private int coordinator = 0;
        private int floor = 0;
        private int awaited = 0;
        private int stamp = 0;
        private int end = 0;
        private final int[] locks = new int[KEYS];
        // Only a write locks exclusively, so a key has a written value just while its lock
        // is exclusive.
        private final int[] written = new int[KEYS];
        // A mark is at least a bound + 1, so 0 can stand for none.
        private final int[] marks = new int[SITES];

        private boolean holdsAt(int p) {
            for (int k = p; k < KEYS; k += SITES) {
                if (locks[k] != UNLOCKED) {
                    return true;
                }
            }
            return false;
        }

        private int leastParticipant() {
            for (int p = 0; p < SITES; p++) {
                if (holdsAt(p)) {
                    return p;
                }
            }
            return NONE;
        }

        private void unlockAt(int p) {
            for (int k = p; k < KEYS; k += SITES) {
                locks[k] = UNLOCKED;
            }
        }

        private void giveUp() {
            for (int p = 0; p < SITES; p++) {
                unlockAt(p);
            }
            state = ABORTED;
        }

        private int greatestMark() {
            int greatest = 0;
            for (int p = 0; p < SITES; p++) {
                greatest = Math.max(greatest, marks[p]);
            }
            return greatest;
        }
    }

    private static final class Message {
        private final int transaction;
        private final int participant;
        private int kind = NOTHING;
        private int receiver = 0;
        private int arrival = 0;
        private int order = 0;

        private Message(int transaction, int participant) {
            this.transaction = transaction;
            this.participant = participant;
        }

        private boolean comesBefore(Message other) {
            return arrival < other.arrival || arrival == other.arrival && order < other.order;
        }
    }

    public WaitedCommits(int e) {
        greatestError = Math.max(0, Math.min(e, GREATEST_E));
        for (int p = 0; p < SITES; p++) {
            sites[p] = new Site(greatestError);
        }
        for (int k = 0; k < KEYS; k++) {
            keys[k] = new Key();
        }
        for (int t = 0; t < TRANSACTIONS; t++) {
            transactions[t] = new Transaction();
            for (int p = 0; p < SITES; p++) {
                slots[t * SITES + p] = new Message(t, p);
            }
        }
    }

    public boolean clock(int p, int a, int b) {
        if (!isSite(p) || !isError(a) || !isError(b)) {
            return false;
        }
        sites[p].before = a;
        sites[p].after = b;
        return true;
    }

    public boolean delay(int p, int d) {
        if (!isSite(p) || d < 0 || d > GREATEST_DELAY) {
            return false;
        }
        sites[p].delay = d;
        return true;
    }

    public boolean power(int p, boolean up) {
        if (!isSite(p) || sites[p].isUp == up) {
            return false;
        }
        sites[p].isUp = up;
        return true;
    }

    public boolean begin(int t) {
        if (!isTransaction(t) || !canBegin(transactions[t])) {
            return false;
        }
        transactions[t].state = ACTIVE;
        transactions[t].birth = begun;
        begun++;
        return true;
    }

    public long read(int t, int k) {
        if (!isActive(t) || !isKey(k) || !lock(transactions[t], k, SHARED)) {
            return REFUSED;
        }
        if (transactions[t].locks[k] == EXCLUSIVE) {
            return transactions[t].written[k];
        }
        return keys[k].values[0];
    }

    public boolean write(int t, int k, int v) {
        if (!isActive(t) || !isKey(k) || !lock(transactions[t], k, EXCLUSIVE)) {
            return false;
        }
        transactions[t].written[k] = v;
        return true;
    }

    public boolean commit(int t) {
        if (!isActive(t)) {
            return false;
        }
        int coordinator = transactions[t].leastParticipant();
        if (coordinator == NONE || !sites[coordinator].isUp) {
            return false;
        }
        transactions[t].coordinator = coordinator;
        prepare(t);
        return true;
    }

    public boolean abort(int t) {
        if (!isActive(t)) {
            return false;
        }
        transactions[t].giveUp();
        return true;
    }

    public long readAt(int k, int r) {
        if (!isKey(k) || !sites[siteOf(k)].isUp || r > greatestReadyTime(siteOf(k))) {
            return REFUSED;
        }
        sites[siteOf(k)].raiseBound(r);
        return keys[k].valueAt(r);
    }

    public int step(int n) {
        if (n < 0 || n > MOST_STEPS) {
            return NONE;
        }
        int committed = 0;
        for (int i = 0; i < n; i++) {
            time++;
            deliverMessages();
            committed += endWaiting();
        }
        return committed;
    }

    public int now() {
        return time;
    }

    public int state(int t) {
        return isTransaction(t) ? transactions[t].state : NONE;
    }

    public int stamp(int t) {
        int state = state(t);
        return state == WAITING || state == COMMITTED ? transactions[t].stamp : NONE;
    }

    public int end(int t) {
        return state(t) == COMMITTED ? transactions[t].end : NONE;
    }

    public int marks(int p) {
        if (!isSite(p)) {
            return 0;
        }
        int count = 0;
        for (int t = 0; t < TRANSACTIONS; t++) {
            if (transactions[t].marks[p] != 0) {
                count++;
            }
        }
        return count == 0 ? 0 : count + MARKS_UNIT * leastMark(p);
    }

    public int safe(int p) {
        return isSite(p) && sites[p].isUp ? greatestReadyTime(p) : NONE;
    }

    public int bound(int p) {
        return isSite(p) ? sites[p].bound : NONE;
    }

    public int holders(int k) {
        if (!isKey(k)) {
            return 0;
        }
        int bits = 0;
        for (int t = 0; t < TRANSACTIONS; t++) {
            if (transactions[t].locks[k] != UNLOCKED) {
                bits |= 1 << t;
            }
            if (transactions[t].locks[k] == EXCLUSIVE) {
                bits |= EXCLUSIVE_BIT;
            }
        }
        return bits;
    }

    public int version(int k, int i) {
        if (!isKey(k) || i < 0 || i >= keys[k].count) {
            return NONE;
        }
        return keys[k].stamps[i];
    }

    public int messages() {
        return underWay;
    }

    private static boolean isSite(int p) {
        return p >= 0 && p < SITES;
    }

    private static boolean isKey(int k) {
        return k >= 0 && k < KEYS;
    }

    private static boolean isTransaction(int t) {
        return t >= 0 && t < TRANSACTIONS;
    }

    private static int siteOf(int k) {
        return k % SITES;
    }

    private static boolean canBegin(Transaction t) {
        boolean isOver = t.state == COMMITTED && t.leastParticipant() == NONE;
        return t.state == NOT_BEGUN || t.state == ABORTED || isOver;
    }

    private boolean isError(int error) {
        return error >= 0 && error <= greatestError;
    }

    private boolean isActive(int t) {
        return isTransaction(t) && transactions[t].state == ACTIVE;
    }

    private int latest(int p) {
        return time + sites[p].after;
    }

    private int earliest(int p) {
        return time - sites[p].before;
    }

    private int leastMark(int p) {
        int least = Integer.MAX_VALUE;
        for (int t = 0; t < TRANSACTIONS; t++) {
            if (transactions[t].marks[p] != 0) {
                least = Math.min(least, transactions[t].marks[p]);
            }
        }
        return least;
    }

    private int greatestReadyTime(int p) {
        return Math.min(latest(p), leastMark(p) - 1);
    }

    private boolean lock(Transaction t, int k, int kind) {
        if (!sites[siteOf(k)].isUp) {
            return false;
        }
        if (t.locks[k] >= kind) {
            return true;
        }
        // All are looked at before one is aborted: a refused call must change nothing.
        for (int i = 0; i < TRANSACTIONS; i++) {
            if (conflicts(transactions[i], t, k, kind) && !canPushAside(t, transactions[i])) {
                return false;
            }
        }
        for (int i = 0; i < TRANSACTIONS; i++) {
            if (conflicts(transactions[i], t, k, kind)) {
                transactions[i].giveUp();
            }
        }
        t.locks[k] = kind;
        return true;
    }

    private static boolean conflicts(Transaction other, Transaction t, int k, int kind) {
        if (other == t || other.locks[k] == UNLOCKED) {
            return false;
        }
        return kind == EXCLUSIVE || other.locks[k] == EXCLUSIVE;
    }

    private static boolean canPushAside(Transaction t, Transaction other) {
        return other.state == ACTIVE && other.birth > t.birth;
    }

    private void prepare(int number) {
        Transaction t = transactions[number];
        t.state = PREPARING;
        t.floor = latest(t.coordinator) + 1;
        t.awaited = sendToOthers(PREPARE, number);
        if (t.awaited == 0) {
            chooseStamp(t);
        }
    }

    private int sendToOthers(int kind, int number) {
        Transaction t = transactions[number];
        int count = 0;
        for (int p = 0; p < SITES; p++) {
            if (p != t.coordinator && t.holdsAt(p)) {
                send(kind, number, p);
                count++;
            }
        }
        return count;
    }

    private void send(int kind, int number, int participant) {
        int coordinator = transactions[number].coordinator;
        Message m = slots[number * SITES + participant];
        m.kind = kind;
        m.receiver = kind == PREPARED ? coordinator : participant;
        m.arrival = time + 1 + sites[coordinator].delay + sites[participant].delay;
        m.order = sent;
        sent++;
        underWay++;
    }

    private void deliverMessages() {
        // What is sent meanwhile is not due before the next step, so no slot is due twice.
        for (int i = 0; i < slots.length && underWay > 0; i++) {
            Message m = firstDue();
            if (m == null) {
                return;
            }
            dealWith(m);
        }
    }

    private Message firstDue() {
        Message first = null;
        for (int i = 0; i < slots.length; i++) {
            if (isDue(slots[i]) && (first == null || slots[i].comesBefore(first))) {
                first = slots[i];
            }
        }
        return first;
    }

    private boolean isDue(Message m) {
        return m.kind != NOTHING && m.arrival <= time && sites[m.receiver].isUp;
    }

    private void dealWith(Message m) {
        int kind = m.kind;
        // The slot is freed first, since the answer to a message takes the same one.
        m.kind = NOTHING;
        underWay--;
        if (kind == PREPARE) {
            takePrepare(m.transaction, m.participant);
        } else if (kind == PREPARED) {
            takePrepared(transactions[m.transaction]);
        } else {
            finishAt(transactions[m.transaction], m.participant);
        }
    }

    private void takePrepare(int number, int p) {
        int mark = Math.max(latest(p), sites[p].bound + 1);
        transactions[number].marks[p] = mark;
        sites[p].bound = mark;
        send(PREPARED, number, p);
    }

    private void takePrepared(Transaction t) {
        t.awaited--;
        if (t.awaited == 0) {
            chooseStamp(t);
        }
    }

    private void chooseStamp(Transaction t) {
        Site home = sites[t.coordinator];
        t.stamp = Math.max(Math.max(t.floor, t.greatestMark()), home.bound + 1);
        t.marks[t.coordinator] = t.stamp;
        home.bound = t.stamp;
        t.state = WAITING;
    }

    private int endWaiting() {
        int committed = 0;
        for (int t = 0; t < TRANSACTIONS; t++) {
            if (mayEnd(transactions[t])) {
                endOne(t);
                committed++;
            }
        }
        return committed;
    }

    private boolean mayEnd(Transaction t) {
        return t.state == WAITING && sites[t.coordinator].isUp && earliest(t.coordinator) > t.stamp;
    }

    private void endOne(int number) {
        Transaction t = transactions[number];
        t.state = COMMITTED;
        t.end = time;
        finishAt(t, t.coordinator);
        sendToOthers(COMMIT, number);
    }

    private void finishAt(Transaction t, int p) {
        for (int k = p; k < KEYS; k += SITES) {
            if (t.locks[k] == EXCLUSIVE) {
                keys[k].add(t.written[k], t.stamp);
            }
        }
        t.unlockAt(p);
        t.marks[p] = 0;
        sites[p].raiseBound(t.stamp);
    }
}
