/** Promises 5, 6, 7, 9, 13 and 19: beginning, reading, writing, aborting, and who holds what. */
public final class LockingTest {
    private static final Due DUE = new Due();
    private static final long REFUSED = WaitedCommits.REFUSED;

    private LockingTest() {}

    public static void main(String[] args) {
        begin();
        beginAgainWhenCommitted();
        beginMakesTheYoungest();
        beginForgets();
        read();
        readSeesOwnWrite();
        readLocks();
        write();
        writeUpgrades();
        writeAbortsAllYounger();
        aRefusedLockChangesNothing();
        notActiveHoldersStay();
        aDownSiteRefusesLocks();
        abort();
        state();
        holders();
        DUE.close();
    }

    private static WaitedCommits begun(int e, int... transactions) {
        WaitedCommits x = new WaitedCommits(e);
        for (int t : transactions) {
            DUE.yes("begin(" + t + ")", x.begin(t));
        }
        return x;
    }

    private static void begin() {
        DUE.promise("5, begin");
        WaitedCommits x = new WaitedCommits(1);
        for (int t = 0; t < 5; t++) {
            DUE.yes("begin", x.begin(t));
            DUE.is("state", x.state(t), 1);
            DUE.no("begin when active", x.begin(t));
        }
        int[] wrong = {-1, 5, Integer.MIN_VALUE, Integer.MAX_VALUE};
        for (int t : wrong) {
            DUE.no("begin(" + t + ")", x.begin(t));
        }
        x.abort(3);
        DUE.yes("begin when aborted", x.begin(3));
        x.write(0, 0, 1);
        x.write(0, 1, 1);
        x.commit(0);
        DUE.no("begin when preparing", x.begin(0));
        DUE.is("state(0)", x.state(0), 2);
        x.step(2);
        DUE.is("state(0)", x.state(0), 3);
        DUE.no("begin when waiting", x.begin(0));
        DUE.is("state(0)", x.state(0), 3);
    }

    private static void beginAgainWhenCommitted() {
        DUE.promise("5, begin of a committed one");
        WaitedCommits x = begun(0, 0);
        x.write(0, 0, 1);
        x.read(0, 1);
        x.commit(0);
        x.step(2);
        DUE.is("state(0)", x.state(0), 4);
        DUE.is("holders(1)", x.holders(1), 1);
        DUE.no("begin while it holds a lock", x.begin(0));
        DUE.is("state(0)", x.state(0), 4);
        DUE.is("stamp(0)", x.stamp(0), 1);
        x.step(1);
        DUE.is("holders(1)", x.holders(1), 0);
        DUE.yes("begin without locks", x.begin(0));
        DUE.is("state(0)", x.state(0), 1);
        DUE.is("stamp(0)", x.stamp(0), -1);
        DUE.is("end(0)", x.end(0), -1);
    }

    private static void beginMakesTheYoungest() {
        DUE.promise("5, the youngest");
        WaitedCommits x = begun(1, 3, 1);
        x.write(3, 0, 1);
        DUE.no("the younger 1 against 3", x.write(1, 0, 2));
        x.abort(3);
        x.begin(3);
        x.write(3, 0, 1);
        DUE.yes("1, now the older", x.write(1, 0, 2));
        DUE.is("state(3)", x.state(3), 5);
        DUE.no("an aborted one", x.write(3, 0, 1));
    }

    private static void beginForgets() {
        DUE.promise("5, nothing written");
        WaitedCommits x = begun(0, 0);
        x.write(0, 4, 77);
        x.abort(0);
        x.begin(0);
        DUE.is("holders(4)", x.holders(4), 0);
        DUE.is("read(0, 4)", x.read(0, 4), 0);
        DUE.is("holders(4)", x.holders(4), 1);
        x.commit(0);
        x.step(9);
        DUE.is("version(4, 0)", x.version(4, 0), 0);
    }

    private static void read() {
        DUE.promise("6, read");
        WaitedCommits x = begun(0, 2);
        for (int k = 0; k < 9; k++) {
            DUE.is("read(2, " + k + ")", x.read(2, k), 0);
            DUE.is("holders", x.holders(k), 4);
        }
        int[] wrongKeys = {-1, 9, Integer.MIN_VALUE, Integer.MAX_VALUE};
        for (int k : wrongKeys) {
            DUE.is("read(2, " + k + ")", x.read(2, k), REFUSED);
        }
        int[] wrongOnes = {-1, 5, 0, Integer.MIN_VALUE, Integer.MAX_VALUE};
        for (int t : wrongOnes) {
            DUE.is("read(" + t + ", 0)", x.read(t, 0), REFUSED);
        }
        x.commit(2);
        DUE.is("read when preparing", x.read(2, 0), REFUSED);
        x.step(2);
        x.step(2);
        DUE.is("state(2)", x.state(2), 4);
        DUE.is("read when committed", x.read(2, 0), REFUSED);
    }

    private static void readSeesOwnWrite() {
        DUE.promise("6, what it answers");
        WaitedCommits x = begun(0, 0);
        DUE.yes("write", x.write(0, 7, -3));
        DUE.is("own write", x.read(0, 7), -3);
        DUE.yes("write", x.write(0, 7, Integer.MIN_VALUE));
        DUE.is("own latest write", x.read(0, 7), Integer.MIN_VALUE);
        DUE.is("still exclusive", x.holders(7), 33);
        x.commit(0);
        x.step(9);
        x.begin(1);
        DUE.is("the newest version", x.read(1, 7), Integer.MIN_VALUE);
        DUE.yes("write", x.write(1, 7, 6));
        x.begin(2);
        DUE.is("another key of the site", x.read(2, 1), 0);
        x.abort(1);
        DUE.is("not what an aborted one wrote", x.read(2, 7), Integer.MIN_VALUE);
    }

    private static void readLocks() {
        DUE.promise("6, shared locks");
        WaitedCommits x = begun(0, 0, 1, 2);
        DUE.is("read(2, 0)", x.read(2, 0), 0);
        DUE.is("read(0, 0)", x.read(0, 0), 0);
        DUE.is("read(1, 0)", x.read(1, 0), 0);
        DUE.is("all share it", x.holders(0), 7);
        x.write(1, 3, 5);
        DUE.is("a younger reader", x.read(2, 3), REFUSED);
        DUE.is("state(1)", x.state(1), 1);
        DUE.is("holders(3)", x.holders(3), 34);
        DUE.is("an older reader", x.read(0, 3), 0);
        DUE.is("state(1)", x.state(1), 5);
        DUE.is("holders(3)", x.holders(3), 1);
        DUE.is("the aborted one's other locks", x.holders(0), 5);
    }

    private static void write() {
        DUE.promise("7, write");
        WaitedCommits x = begun(0, 4);
        for (int k = 0; k < 9; k++) {
            DUE.yes("write(4, " + k + ", 1)", x.write(4, k, 1));
            DUE.is("holders", x.holders(k), 48);
        }
        int[] wrongKeys = {-1, 9, Integer.MIN_VALUE, Integer.MAX_VALUE};
        for (int k : wrongKeys) {
            DUE.no("write(4, " + k + ", 1)", x.write(4, k, 1));
        }
        int[] wrongOnes = {-1, 5, 0, Integer.MIN_VALUE, Integer.MAX_VALUE};
        for (int t : wrongOnes) {
            DUE.no("write(" + t + ", 0, 1)", x.write(t, 0, 1));
        }
        x.commit(4);
        DUE.no("write when preparing", x.write(4, 0, 2));
        x.step(9);
        DUE.no("write when committed", x.write(4, 0, 2));
        DUE.is("the value of before", x.readAt(0, 9), 1);
    }

    private static void writeUpgrades() {
        DUE.promise("7, a shared lock before");
        WaitedCommits x = begun(0, 0, 1);
        x.read(0, 5);
        DUE.yes("write(0, 5, 4)", x.write(0, 5, 4));
        DUE.is("holders(5)", x.holders(5), 33);
        x.read(0, 2);
        x.read(1, 2);
        DUE.no("the younger", x.write(1, 2, 3));
        DUE.is("both still share it", x.holders(2), 3);
        DUE.yes("the older", x.write(0, 2, 3));
        DUE.is("holders(2)", x.holders(2), 33);
        DUE.is("state(1)", x.state(1), 5);
    }

    private static void writeAbortsAllYounger() {
        DUE.promise("7, all that conflict");
        WaitedCommits x = begun(0, 2, 4, 1, 0);
        x.read(4, 6);
        x.read(1, 6);
        x.read(0, 6);
        x.read(0, 7);
        x.write(1, 8, 1);
        DUE.yes("write(2, 6, 1)", x.write(2, 6, 1));
        DUE.is("holders(6)", x.holders(6), 36);
        DUE.is("holders(7)", x.holders(7), 0);
        DUE.is("holders(8)", x.holders(8), 0);
        DUE.is("state(4)", x.state(4), 5);
        DUE.is("state(1)", x.state(1), 5);
        DUE.is("state(0)", x.state(0), 5);
        DUE.is("state(2)", x.state(2), 1);
    }

    private static void aRefusedLockChangesNothing() {
        DUE.promise("7, refused with younger and older holders");
        int[][] orders = {{0, 1, 2}, {2, 1, 0}};
        for (int[] order : orders) {
            WaitedCommits x = begun(0, order);
            x.read(order[0], 1);
            x.read(order[2], 1);
            DUE.no("the middle one", x.write(order[1], 1, 1));
            DUE.is("state of the youngest", x.state(order[2]), 1);
            DUE.is("state of the oldest", x.state(order[0]), 1);
            DUE.is("state of the middle one", x.state(order[1]), 1);
            DUE.is("holders(1)", x.holders(1), 5);
        }
    }

    private static void notActiveHoldersStay() {
        DUE.promise("7, holders that are not active");
        WaitedCommits x = begun(3, 0, 1);
        x.write(1, 0, 5);
        x.read(1, 1);
        x.commit(1);
        DUE.is("preparing", x.state(1), 2);
        DUE.no("an older writer against it", x.write(0, 0, 6));
        DUE.is("an older reader against it", x.read(0, 0), REFUSED);
        DUE.no("an older writer against its shared lock", x.write(0, 1, 6));
        DUE.is("a reader beside its shared lock", x.read(0, 1), 0);
        x.step(2);
        DUE.is("waiting", x.state(1), 3);
        DUE.no("an older writer against it", x.write(0, 0, 6));
        DUE.is("an older reader against it", x.read(0, 0), REFUSED);
        DUE.is("step(6)", x.step(6), 1);
        DUE.is("committed", x.state(1), 4);
        DUE.is("holders(1)", x.holders(1), 3);
        DUE.no("an older writer against a committed one", x.write(0, 1, 6));
        x.step(1);
        DUE.yes("and when it is finished there", x.write(0, 1, 6));
        DUE.is("read(0, 0)", x.read(0, 0), 5);
    }

    private static void aDownSiteRefusesLocks() {
        DUE.promise("6 and 7, a site that is down");
        WaitedCommits x = begun(0, 0);
        x.read(0, 2);
        x.write(0, 5, 4);
        x.power(2, false);
        DUE.is("read of a new key", x.read(0, 8), REFUSED);
        DUE.no("write of a new key", x.write(0, 8, 1));
        DUE.is("read of a key held shared", x.read(0, 2), REFUSED);
        DUE.is("read of a key held exclusively", x.read(0, 5), REFUSED);
        DUE.no("write of a key held exclusively", x.write(0, 5, 9));
        DUE.is("holders(2)", x.holders(2), 1);
        DUE.is("holders(8)", x.holders(8), 0);
        DUE.is("a key of another site", x.read(0, 7), 0);
        x.power(2, true);
        DUE.is("read(0, 5)", x.read(0, 5), 4);
    }

    private static void abort() {
        DUE.promise("9, abort");
        WaitedCommits x = begun(0, 0, 1);
        x.write(0, 0, 1);
        x.read(0, 4);
        DUE.yes("abort(0)", x.abort(0));
        DUE.is("state(0)", x.state(0), 5);
        DUE.is("holders(0)", x.holders(0), 0);
        DUE.is("holders(4)", x.holders(4), 0);
        DUE.no("abort when aborted", x.abort(0));
        DUE.no("abort when not begun", x.abort(2));
        DUE.is("state(2)", x.state(2), 0);
        int[] wrong = {-1, 5, Integer.MIN_VALUE, Integer.MAX_VALUE};
        for (int t : wrong) {
            DUE.no("abort(" + t + ")", x.abort(t));
        }
        x.write(1, 0, 3);
        x.write(1, 1, 3);
        x.commit(1);
        DUE.no("abort when preparing", x.abort(1));
        DUE.is("holders(0)", x.holders(0), 34);
        x.step(9);
        DUE.is("state(1)", x.state(1), 4);
        DUE.no("abort when committed", x.abort(1));
        x.begin(1);
        x.read(1, 0);
        x.commit(1);
        DUE.is("state(1)", x.state(1), 3);
        DUE.no("abort when waiting", x.abort(1));
        DUE.is("state(1)", x.state(1), 3);
    }

    private static void state() {
        DUE.promise("13, state");
        WaitedCommits x = begun(2, 0);
        DUE.is("state(1)", x.state(1), 0);
        DUE.is("state(0)", x.state(0), 1);
        int[] wrong = {-1, 5, Integer.MIN_VALUE, Integer.MAX_VALUE};
        for (int t : wrong) {
            DUE.is("state(" + t + ")", x.state(t), -1);
        }
    }

    private static void holders() {
        DUE.promise("19, holders");
        WaitedCommits x = begun(2, 0, 1, 2, 3, 4);
        for (int t = 0; t < 5; t++) {
            x.read(t, 8);
            DUE.is("holders(8)", x.holders(8), (2 << t) - 1);
            x.write(t, t, 1);
            DUE.is("holders(t)", x.holders(t), (1 << t) + 32);
        }
        int[] wrong = {-1, 9, Integer.MIN_VALUE, Integer.MAX_VALUE};
        for (int k : wrong) {
            DUE.is("holders(" + k + ")", x.holders(k), 0);
        }
    }
}
