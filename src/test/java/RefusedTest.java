import java.util.function.Predicate;
import java.util.function.Supplier;
import java.util.function.ToLongFunction;

/**
 * "A call that is refused changes nothing": for each promise that tells of refusing, every wrong
 * argument next to the right ones and far off, and every state that refuses.
 */
public final class RefusedTest {
    private static final Due DUE = new Due();
    private static final Twins TWINS = new Twins(DUE);
    private static final long REFUSED = WaitedCommits.REFUSED;

    private RefusedTest() {}

    public static void main(String[] args) {
        theScenesAreWhatTheyShouldBe();
        clockOfNoSite();
        clockOutsideE();
        clockWithoutErrors();
        delayOfNoSite();
        delayOutside();
        powerOfNoSite();
        powerThatChangesNothing();
        beginOfNoTransaction();
        beginInAWrongState();
        readByNoTransaction();
        readInAWrongState();
        readOfNoKey();
        readAtADownSite();
        readAgainstAnExclusiveLock();
        writeByNoTransaction();
        writeInAWrongState();
        writeOfNoKey();
        writeAtADownSite();
        writeAgainstOlderOnes();
        writeAgainstOnesNotActive();
        commitOfNoTransaction();
        commitInAWrongState();
        commitWithoutALock();
        commitWithTheCoordinatorDown();
        abortOfNoTransaction();
        abortInAWrongState();
        readAtOfNoKey();
        readAtOfADownSite();
        readAtAboveTheLatestTime();
        readAtFromTheLeastMark();
        stepOutside();
        looksChangeNothing();
        DUE.close();
    }

    private static void no(String call, Supplier<WaitedCommits> scene, Predicate<WaitedCommits> made) {
        TWINS.refused(call, scene, x -> made.test(x) ? 1 : 0, 0);
    }

    private static void notRead(String call, Supplier<WaitedCommits> scene, ToLongFunction<WaitedCommits> made) {
        TWINS.refused(call, scene, made, REFUSED);
    }

    private static void theScenesAreWhatTheyShouldBe() {
        DUE.promise("the scenes of these tests");
        WaitedCommits x = Scenes.busy();
        for (int t = 0; t < 5; t++) {
            DUE.is("state(" + t + ")", x.state(t), 1 + t);
        }
        DUE.is("holders(7)", x.holders(7), 32 + 8);
        DUE.is("holders(8)", x.holders(8), 3);
        DUE.is("messages()", x.messages(), 2);
        DUE.is("marks(0)", x.marks(0), Edges.marks(1, 24));
        DUE.is("marks(1)", x.marks(1), Edges.marks(1, 16));
        DUE.is("bound(2)", x.bound(2), 23);
        WaitedCommits y = Scenes.crowded();
        for (int t = 0; t < 5; t++) {
            DUE.is("state(" + t + ")", y.state(t), 1);
            DUE.is("holders(" + t + ")", y.holders(t), 32 + (1 << t));
        }
        DUE.is("holders(6)", y.holders(6), 31);
        WaitedCommits z = sharedByAllWithOneCommitted(3);
        DUE.is("state(3)", z.state(3), 4);
        DUE.is("holders(1)", z.holders(1), 31);
    }

    private static void clockOfNoSite() {
        DUE.promise("2: false (refused) when p is not 0 .. 2");
        for (int p : Edges.noSites()) {
            no("clock(" + p + ", 0, 0)", Scenes::busy, x -> x.clock(p, 0, 0));
        }
    }

    private static void clockOutsideE() {
        DUE.promise("2: or one of them is not 0 .. E");
        for (int wrong : Edges.outside(6)) {
            for (int p = 0; p < 3; p++) {
                int site = p;
                no("clock(p, " + wrong + ", 0)", Scenes::busy, x -> x.clock(site, wrong, 0));
                no("clock(p, 0, " + wrong + ")", Scenes::busy, x -> x.clock(site, 0, wrong));
                no("clock(p, " + wrong + ", " + wrong + ")", Scenes::busy, x -> x.clock(site, wrong, wrong));
            }
        }
    }

    private static void clockWithoutErrors() {
        DUE.promise("2: not 0 .. E, when E is 0 or 20");
        for (int wrong : Edges.outside(0)) {
            no("clock(1, " + wrong + ", 0)", () -> new WaitedCommits(0), x -> x.clock(1, wrong, 0));
            no("clock(1, 0, " + wrong + ")", () -> new WaitedCommits(0), x -> x.clock(1, 0, wrong));
        }
        for (int wrong : Edges.outside(20)) {
            no("clock(1, " + wrong + ", 0)", () -> new WaitedCommits(99), x -> x.clock(1, wrong, 0));
            no("clock(1, 0, " + wrong + ")", () -> new WaitedCommits(99), x -> x.clock(1, 0, wrong));
        }
    }

    private static void delayOfNoSite() {
        DUE.promise("3: refused (false) when p is not 0 .. 2");
        for (int p : Edges.noSites()) {
            no("delay(" + p + ", 5)", Scenes::busy, x -> x.delay(p, 5));
        }
    }

    private static void delayOutside() {
        DUE.promise("3: or d not 0 .. 9");
        for (int d : Edges.outside(9)) {
            for (int p = 0; p < 3; p++) {
                int site = p;
                no("delay(p, " + d + ")", Scenes::busy, x -> x.delay(site, d));
            }
        }
    }

    private static void powerOfNoSite() {
        DUE.promise("4: false when p is not 0 .. 2");
        for (int p : Edges.noSites()) {
            no("power(" + p + ", false)", Scenes::busy, x -> x.power(p, false));
            no("power(" + p + ", true)", () -> Scenes.busyWithout(1), x -> x.power(p, true));
        }
    }

    private static void powerThatChangesNothing() {
        DUE.promise("4: false when it did not change something");
        for (int p = 0; p < 3; p++) {
            int site = p;
            no("power(p, true)", Scenes::busy, x -> x.power(site, true));
            no("power(p, false)", () -> Scenes.busyWithout(site), x -> x.power(site, false));
        }
    }

    private static void beginOfNoTransaction() {
        DUE.promise("5: Refused (false) when t is not 0 .. 4");
        for (int t : Edges.noTransactions()) {
            no("begin(" + t + ")", Scenes::busy, x -> x.begin(t));
        }
    }

    private static void beginInAWrongState() {
        DUE.promise("5: or is active, preparing or waiting, or is committed and still holds a lock");
        String[] states = {"active", "preparing", "waiting", "committed and still holds a lock"};
        for (int t = 0; t < states.length; t++) {
            int one = t;
            no("begin when " + states[t], Scenes::busy, x -> x.begin(one));
        }
        for (int t = 0; t < 5; t++) {
            int one = t;
            no("begin of an active one, which would be the youngest", Scenes::crowded, x -> x.begin(one));
        }
    }

    private static void readByNoTransaction() {
        DUE.promise("6: REFUSED when t is not 0 .. 4");
        for (int t : Edges.noTransactions()) {
            notRead("read(" + t + ", 2)", Scenes::busy, x -> x.read(t, 2));
        }
    }

    private static void readInAWrongState() {
        DUE.promise("6: REFUSED when t is not active");
        for (int t = 0; t < 5; t++) {
            int one = t;
            notRead("read by one not begun", () -> new WaitedCommits(1), x -> x.read(one, one));
        }
        for (int t = 1; t < 5; t++) {
            int one = t;
            for (int k = 0; k < 9; k++) {
                int key = k;
                notRead("read in state " + (t + 1), Scenes::busy, x -> x.read(one, key));
            }
        }
    }

    private static void readOfNoKey() {
        DUE.promise("6: REFUSED when k is not 0 .. 8");
        for (int k : Edges.noKeys()) {
            notRead("read(0, " + k + ")", Scenes::busy, x -> x.read(0, k));
        }
    }

    private static void readAtADownSite() {
        DUE.promise("6: refused also if t has a lock on it, but its site is down");
        int[] held = {0, 4, 8};
        for (int k : held) {
            notRead("read of held key " + k, () -> Scenes.busyWithout(k % 3), x -> x.read(0, k));
        }
        for (int k = 0; k < 9; k++) {
            int key = k;
            notRead("read of key " + k, () -> Scenes.busyWithout(key % 3), x -> x.read(0, key));
        }
        for (int k = 0; k < 5; k++) {
            int key = k;
            notRead("read by the oldest of key " + k, () -> without(Scenes.crowded(), key % 3), x -> x.read(2, key));
        }
    }

    private static void readAgainstAnExclusiveLock() {
        DUE.promise("6: or locking is refused (the other is older or not active)");
        int[] order = {2, 0, 4, 1, 3};
        for (int young = 1; young < 5; young++) {
            for (int old = 0; old < young; old++) {
                int t = order[young];
                int k = order[old];
                notRead("read(" + t + ", " + k + ")", Scenes::crowded, x -> x.read(t, k));
            }
        }
        int[] notActive = {1, 5, 3, 7};
        for (int k : notActive) {
            notRead("read(0, " + k + ")", Scenes::busy, x -> x.read(0, k));
        }
    }

    private static void writeByNoTransaction() {
        DUE.promise("7: Refused (false) when t is not 0 .. 4");
        for (int t : Edges.noTransactions()) {
            no("write(" + t + ", 2, 9)", Scenes::busy, x -> x.write(t, 2, 9));
        }
    }

    private static void writeInAWrongState() {
        DUE.promise("7: Refused (false) when t is not active");
        for (int t = 0; t < 5; t++) {
            int one = t;
            no("write by one not begun", () -> new WaitedCommits(1), x -> x.write(one, one, 9));
        }
        for (int t = 1; t < 5; t++) {
            int one = t;
            for (int k = 0; k < 9; k++) {
                int key = k;
                no("write in state " + (t + 1), Scenes::busy, x -> x.write(one, key, 9));
            }
        }
    }

    private static void writeOfNoKey() {
        DUE.promise("7: or k is not 0 .. 8");
        for (int k : Edges.noKeys()) {
            no("write(0, " + k + ", 9)", Scenes::busy, x -> x.write(0, k, 9));
        }
    }

    private static void writeAtADownSite() {
        DUE.promise("7: or locking is refused (the site is down)");
        for (int k = 0; k < 9; k++) {
            int key = k;
            no("write of key " + k, () -> Scenes.busyWithout(key % 3), x -> x.write(0, key, 9));
        }
        for (int k = 0; k < 9; k++) {
            int key = k;
            no("write by the oldest of key " + k, () -> without(Scenes.crowded(), key % 3), x -> x.write(2, key, 9));
        }
    }

    private static void writeAgainstOlderOnes() {
        DUE.promise("7: or locking is refused (one of the others is older)");
        int[] order = {2, 0, 4, 1, 3};
        for (int young = 1; young < 5; young++) {
            int t = order[young];
            no("write(" + t + ", 6), which younger ones share too", Scenes::crowded, x -> x.write(t, 6, 9));
            for (int old = 0; old < young; old++) {
                int k = order[old];
                no("write(" + t + ", " + k + ")", Scenes::crowded, x -> x.write(t, k, 9));
            }
        }
        no("write(1, 7), shared by an older one", Scenes::crowded, x -> x.write(1, 7, 9));
    }

    private static void writeAgainstOnesNotActive() {
        DUE.promise("7: or locking is refused (one of the others is not active)");
        int[] keys = {8, 1, 5, 3, 7};
        for (int k : keys) {
            no("write(0, " + k + ")", Scenes::busy, x -> x.write(0, k, 9));
        }
        for (int committing = 1; committing < 5; committing++) {
            int one = committing;
            no("write by the oldest, with one preparing", () -> sharedByAllWithOneCommitting(one, 0, 1),
                x -> x.write(0, 0, 9));
            no("write by the oldest, with one waiting", () -> sharedByAllWithOneCommitting(one, 0),
                x -> x.write(0, 0, 9));
            no("write by the oldest, with one committed", () -> sharedByAllWithOneCommitted(one),
                x -> x.write(0, 1, 9));
        }
    }

    private static WaitedCommits sharedByAllWithOneCommitting(int committing, int... keys) {
        WaitedCommits x = Edges.begun(2, 0, 1, 2, 3, 4);
        for (int t = 0; t < 5; t++) {
            for (int k : keys) {
                x.read(t, k);
            }
        }
        x.commit(committing);
        return x;
    }

    private static WaitedCommits sharedByAllWithOneCommitted(int committed) {
        WaitedCommits x = sharedByAllWithOneCommitting(committed, 0, 1);
        x.step(6);
        return x;
    }

    private static void commitOfNoTransaction() {
        DUE.promise("8: Refused (false) when t is not 0 .. 4");
        for (int t : Edges.noTransactions()) {
            no("commit(" + t + ")", Scenes::busy, x -> x.commit(t));
        }
    }

    private static void commitInAWrongState() {
        DUE.promise("8: Refused (false) when t is not active");
        for (int t = 0; t < 5; t++) {
            int one = t;
            no("commit of one not begun", () -> new WaitedCommits(1), x -> x.commit(one));
        }
        for (int t = 1; t < 5; t++) {
            int one = t;
            no("commit in state " + (t + 1), Scenes::busy, x -> x.commit(one));
        }
    }

    private static void commitWithoutALock() {
        DUE.promise("8: or holds no lock");
        for (int t = 0; t < 5; t++) {
            int one = t;
            no("commit of one just begun", () -> Edges.begun(1, one), x -> x.commit(one));
        }
        no("commit of one whose locking was refused", RefusedTest::refusedOnce, x -> x.commit(1));
        no("commit of one begun again", RefusedTest::begunAgain, x -> x.commit(4));
    }

    private static WaitedCommits refusedOnce() {
        WaitedCommits x = Edges.begun(1, 0, 1);
        x.write(0, 0, 5);
        x.write(1, 0, 6);
        return x;
    }

    private static WaitedCommits begunAgain() {
        WaitedCommits x = Scenes.busy();
        x.begin(4);
        return x;
    }

    private static void commitWithTheCoordinatorDown() {
        DUE.promise("8: or its coordinator is down");
        for (int p = 0; p < 3; p++) {
            int site = p;
            no("commit at one site", () -> without(holding(site), site), x -> x.commit(0));
        }
        no("commit at 0 and 1", () -> without(holding(1, 0), 0), x -> x.commit(0));
        no("commit at 0 and 2", () -> without(holding(2, 0), 0), x -> x.commit(0));
        no("commit at 1 and 2", () -> without(holding(2, 1), 1), x -> x.commit(0));
        no("commit at all sites", () -> without(holding(2, 1, 0), 0), x -> x.commit(0));
        no("commit with other messages", () -> Scenes.busyWithout(0), x -> x.commit(0));
    }

    private static WaitedCommits holding(int... keys) {
        WaitedCommits x = Edges.begun(2, 0);
        x.step(3);
        for (int k : keys) {
            x.write(0, k, 7);
        }
        return x;
    }

    private static WaitedCommits without(WaitedCommits x, int p) {
        x.power(p, false);
        return x;
    }

    private static void abortOfNoTransaction() {
        DUE.promise("9: Refused (false) when t is not 0 .. 4");
        for (int t : Edges.noTransactions()) {
            no("abort(" + t + ")", Scenes::busy, x -> x.abort(t));
        }
    }

    private static void abortInAWrongState() {
        DUE.promise("9: Refused (false) when t is not active");
        for (int t = 0; t < 5; t++) {
            int one = t;
            no("abort of one not begun", () -> new WaitedCommits(1), x -> x.abort(one));
        }
        for (int t = 1; t < 5; t++) {
            int one = t;
            no("abort in state " + (t + 1), Scenes::busy, x -> x.abort(one));
        }
    }

    private static void readAtOfNoKey() {
        DUE.promise("10: REFUSED, changing nothing, when k is not 0 .. 8");
        for (int k : Edges.noKeys()) {
            notRead("readAt(" + k + ", 0)", Scenes::busy, x -> x.readAt(k, 0));
            notRead("readAt(" + k + ", 21)", Scenes::busy, x -> x.readAt(k, 21));
        }
    }

    private static void readAtOfADownSite() {
        DUE.promise("10: or it is not ready (the site is down)");
        int[] times = {Integer.MIN_VALUE, -1, 0, 1, 15, 21, Integer.MAX_VALUE};
        for (int k = 0; k < 9; k++) {
            int key = k;
            for (int r : times) {
                notRead("readAt(" + k + ", " + r + ")", () -> Scenes.busyWithout(key % 3), x -> x.readAt(key, r));
            }
        }
    }

    private static void readAtAboveTheLatestTime() {
        DUE.promise("10: or it is not ready (r is above the latest time)");
        int[] late = {25, 26, 27, 65536, Integer.MAX_VALUE - 1, Integer.MAX_VALUE};
        for (int r : late) {
            notRead("readAt(0, " + r + ")", Scenes::busy, x -> x.readAt(0, r));
            notRead("readAt(8, " + r + ")", Scenes::busy, x -> x.readAt(8, r));
        }
        notRead("readAt(2, 22)", Scenes::busy, x -> x.readAt(2, 22));
        notRead("readAt(5, 24)", Scenes::busy, x -> x.readAt(5, 24));
        for (int e = 0; e <= 20; e++) {
            int error = e;
            notRead("readAt(1, E + 1)", () -> new WaitedCommits(error), x -> x.readAt(1, error + 1));
        }
    }

    private static void readAtFromTheLeastMark() {
        DUE.promise("10: or it is not ready (r is not less than every mark)");
        for (int k = 1; k < 9; k += 3) {
            int key = k;
            for (int r = 16; r <= 26; r++) {
                int time = r;
                notRead("readAt(" + k + ", " + r + ")", Scenes::busy, x -> x.readAt(key, time));
            }
        }
    }

    private static void stepOutside() {
        DUE.promise("11: NONE, with no step, for another n");
        for (int n : Edges.outside(500)) {
            TWINS.refused("step(" + n + ")", Scenes::busy, x -> x.step(n), WaitedCommits.NONE);
            TWINS.refused("step(" + n + ")", () -> new WaitedCommits(3), x -> x.step(n), WaitedCommits.NONE);
        }
        TWINS.unchanged("step(0)", Scenes::busy, x -> x.step(0));
    }

    private static void looksChangeNothing() {
        DUE.promise("12 to 21: looking changes nothing");
        for (int i = -2; i <= 10; i++) {
            int n = i;
            TWINS.unchanged("now()", Scenes::busy, x -> x.now());
            TWINS.unchanged("messages()", Scenes::busy, x -> x.messages());
            TWINS.unchanged("state(" + n + ")", Scenes::busy, x -> x.state(n));
            TWINS.unchanged("stamp(" + n + ")", Scenes::busy, x -> x.stamp(n));
            TWINS.unchanged("end(" + n + ")", Scenes::busy, x -> x.end(n));
            TWINS.unchanged("marks(" + n + ")", Scenes::busy, x -> x.marks(n));
            TWINS.unchanged("safe(" + n + ")", Scenes::busy, x -> x.safe(n));
            TWINS.unchanged("bound(" + n + ")", Scenes::busy, x -> x.bound(n));
            TWINS.unchanged("holders(" + n + ")", Scenes::busy, x -> x.holders(n));
            TWINS.unchanged("version(" + n + ", 1)", Scenes::busy, x -> x.version(n, 1));
            TWINS.unchanged("version(1, " + n + ")", Scenes::busy, x -> x.version(1, n));
        }
    }
}
