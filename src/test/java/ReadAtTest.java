/** Promises 10, 17, 18 and 20: reads at a time, when they are ready, bounds and versions. */
public final class ReadAtTest {
    private static final Due DUE = new Due();
    private static final long REFUSED = WaitedCommits.REFUSED;
    private static final long LOST = WaitedCommits.LOST;

    private ReadAtTest() {}

    public static void main(String[] args) {
        readAtRefused();
        readAtTheLatestTime();
        readAtBelowMarks();
        readAtSeesCommitsUpToIt();
        readAtLost();
        readAtRaisesTheBound();
        refusedRaisesNothing();
        safe();
        bound();
        versions();
        DUE.close();
    }

    private static void commitOne(WaitedCommits x, int t, int k, int v) {
        DUE.yes("begin", x.begin(t));
        DUE.yes("write", x.write(t, k, v));
        DUE.yes("commit", x.commit(t));
    }

    private static void readAtRefused() {
        DUE.promise("10, readAt refused");
        WaitedCommits x = new WaitedCommits(5);
        int[] wrong = {-1, 9, Integer.MIN_VALUE, Integer.MAX_VALUE};
        for (int k : wrong) {
            DUE.is("readAt(" + k + ", 0)", x.readAt(k, 0), REFUSED);
        }
        x.power(1, false);
        DUE.is("site down", x.readAt(4, 0), REFUSED);
        DUE.is("site down, before all time", x.readAt(4, -1), REFUSED);
        DUE.is("another site", x.readAt(3, 0), 0);
    }

    private static void readAtTheLatestTime() {
        DUE.promise("10, the latest time");
        WaitedCommits x = new WaitedCommits(5);
        x.clock(2, 5, 3);
        DUE.is("readAt(8, 4)", x.readAt(8, 4), REFUSED);
        DUE.is("readAt(8, 3)", x.readAt(8, 3), 0);
        DUE.is("readAt(8, MAX)", x.readAt(8, Integer.MAX_VALUE), REFUSED);
        x.step(1);
        DUE.is("readAt(8, 5)", x.readAt(8, 5), REFUSED);
        DUE.is("readAt(8, 4)", x.readAt(8, 4), 0);
        DUE.is("readAt(0, 6)", x.readAt(0, 6), 0);
    }

    private static void readAtBelowMarks() {
        DUE.promise("10, the marks");
        WaitedCommits x = new WaitedCommits(2);
        commitOne(x, 0, 0, 7);
        commitOne(x, 1, 3, 8);
        DUE.is("stamp(0)", x.stamp(0), 3);
        DUE.is("stamp(1)", x.stamp(1), 4);
        x.step(2);
        DUE.is("readAt(0, 2)", x.readAt(0, 2), 0);
        DUE.is("readAt(0, 3), at a mark", x.readAt(0, 3), REFUSED);
        DUE.is("readAt(6, 3), of a key that nobody holds", x.readAt(6, 3), REFUSED);
        DUE.is("readAt(1, 4), of another site", x.readAt(1, 4), 0);
        DUE.is("step(4)", x.step(4), 1);
        DUE.is("readAt(0, 3)", x.readAt(0, 3), 7);
        DUE.is("readAt(0, 4), at the other mark", x.readAt(0, 4), REFUSED);
        DUE.is("step(1)", x.step(1), 1);
        DUE.is("readAt(0, 4)", x.readAt(0, 4), 7);
        DUE.is("readAt(3, 4)", x.readAt(3, 4), 8);
        DUE.is("readAt(3, 3)", x.readAt(3, 3), 0);
    }

    private static void readAtSeesCommitsUpToIt() {
        DUE.promise("10, commits up to it");
        WaitedCommits x = new WaitedCommits(0);
        for (int i = 1; i <= 3; i++) {
            commitOne(x, 0, 5, -i);
            x.step(10);
        }
        int[] stamps = {1, 11, 21};
        for (int r = 0; r <= 30; r++) {
            int seen = 0;
            for (int i = 0; i < 3; i++) {
                seen = stamps[i] <= r ? -1 - i : seen;
            }
            DUE.is("readAt(5, " + r + ")", x.readAt(5, r), seen);
        }
        DUE.is("readAt(5, 31)", x.readAt(5, 31), REFUSED);
        DUE.is("another key of the site", x.readAt(2, 30), 0);
    }

    private static void readAtLost() {
        DUE.promise("10, lost");
        WaitedCommits x = new WaitedCommits(0);
        DUE.is("before the first version", x.readAt(0, -1), LOST);
        DUE.is("before the first version", x.readAt(0, Integer.MIN_VALUE), LOST);
        DUE.is("bound(0)", x.bound(0), 0);
        x.step(9);
        for (int i = 1; i <= 4; i++) {
            commitOne(x, 0, 0, i);
            x.step(10);
        }
        DUE.is("version(0, 3)", x.version(0, 3), 10);
        DUE.is("readAt(0, 9)", x.readAt(0, 9), LOST);
        DUE.is("readAt(0, 0)", x.readAt(0, 0), LOST);
        DUE.is("readAt(0, 10)", x.readAt(0, 10), 1);
        DUE.is("readAt(3, 0)", x.readAt(3, 0), 0);
    }

    private static void readAtRaisesTheBound() {
        DUE.promise("10 and 18, a read raises the bound");
        WaitedCommits x = new WaitedCommits(3);
        DUE.is("readAt(7, 2)", x.readAt(7, 2), 0);
        DUE.is("bound(1)", x.bound(1), 2);
        DUE.is("bound(0)", x.bound(0), 0);
        DUE.is("bound(2)", x.bound(2), 0);
        DUE.is("readAt(7, 1)", x.readAt(7, 1), 0);
        DUE.is("bound(1)", x.bound(1), 2);
        DUE.is("readAt(4, 3)", x.readAt(4, 3), 0);
        DUE.is("bound(1)", x.bound(1), 3);
    }

    private static void refusedRaisesNothing() {
        DUE.promise("10, a refused read changes nothing");
        WaitedCommits x = new WaitedCommits(3);
        x.readAt(0, 4);
        DUE.is("bound(0) after too late a time", x.bound(0), 0);
        x.power(0, false);
        x.readAt(0, 2);
        DUE.is("bound(0) of a site down", x.bound(0), 0);
        x.power(0, true);
        commitOne(x, 0, 0, 1);
        x.step(5);
        x.readAt(0, 6);
        DUE.is("bound(0) after a time above a mark", x.bound(0), 4);
    }

    private static void safe() {
        DUE.promise("17, safe");
        WaitedCommits x = new WaitedCommits(6);
        int[] wrong = {-1, 3, Integer.MIN_VALUE, Integer.MAX_VALUE};
        for (int p : wrong) {
            DUE.is("safe(" + p + ")", x.safe(p), -1);
        }
        DUE.is("safe(0)", x.safe(0), 6);
        commitOne(x, 0, 0, 1);
        commitOne(x, 1, 3, 1);
        DUE.is("safe(0), the latest below the marks", x.safe(0), 6);
        x.step(4);
        DUE.is("safe(0), below the least mark", x.safe(0), 6);
        DUE.is("safe(1)", x.safe(1), 10);
        DUE.is("readAt(6, safe + 1)", x.readAt(6, 7), REFUSED);
        DUE.is("readAt(6, safe)", x.readAt(6, 6), 0);
        x.clock(0, 6, 0);
        DUE.is("safe(0), the latest again", x.safe(0), 4);
        x.power(0, false);
        DUE.is("safe(0) when down", x.safe(0), -1);
        x.power(0, true);
        x.step(10);
        DUE.is("state(0)", x.state(0), 4);
        DUE.is("safe(0), below the other mark", x.safe(0), 7);
        x.step(1);
        DUE.is("safe(0), without marks", x.safe(0), 15);
    }

    private static void bound() {
        DUE.promise("18, bound");
        WaitedCommits x = new WaitedCommits(6);
        int[] wrong = {-1, 3, Integer.MIN_VALUE, Integer.MAX_VALUE};
        for (int p : wrong) {
            DUE.is("bound(" + p + ")", x.bound(p), -1);
        }
        x.step(20);
        DUE.is("bound(2) is no matter of time", x.bound(2), 0);
        x.readAt(2, 13);
        x.power(2, false);
        DUE.is("bound(2) when down", x.bound(2), 13);
        x.begin(0);
        x.write(0, 1, 1);
        DUE.is("bound(1) before commit", x.bound(1), 0);
        x.commit(0);
        DUE.is("bound(1) when stamped", x.bound(1), 27);
    }

    private static void versions() {
        DUE.promise("20, version");
        WaitedCommits x = new WaitedCommits(0);
        int[] wrongKeys = {-1, 9, Integer.MIN_VALUE, Integer.MAX_VALUE};
        for (int k : wrongKeys) {
            DUE.is("version(" + k + ", 0)", x.version(k, 0), -1);
        }
        for (int n = 1; n <= 7; n++) {
            int kept = Math.min(n, 4);
            for (int i = 0; i < kept; i++) {
                int due = n - 1 - i == 0 ? 0 : 10 * (n - 2 - i) + 1;
                DUE.is("version(8, " + i + ") of " + n, x.version(8, i), due);
            }
            DUE.is("version(8, " + kept + ")", x.version(8, kept), -1);
            DUE.is("version(8, -1)", x.version(8, -1), -1);
            DUE.is("version(8, 4)", x.version(8, 4), -1);
            DUE.is("version(8, MAX)", x.version(8, Integer.MAX_VALUE), -1);
            DUE.is("version(8, MIN)", x.version(8, Integer.MIN_VALUE), -1);
            commitOne(x, 0, 8, n);
            x.step(10);
        }
        DUE.is("version(5, 1)", x.version(5, 1), -1);
    }
}
