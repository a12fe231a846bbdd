/** Promises 8, 11, 12, 14, 15, 16 and 21: the two phases, the waiting, and the messages. */
public final class CommittingTest {
    private static final Due DUE = new Due();

    private CommittingTest() {}

    public static void main(String[] args) {
        commitRefused();
        commitOfReadsOnly();
        theLeastParticipantCoordinates();
        otherParticipantsMayBeDown();
        stampOfTheFloor();
        stampOfAMark();
        stampOfTheBound();
        markOfTheBound();
        theLastPreparedStamps();
        theEndNeedsTheCoordinator();
        theEndInTheStepOfTheStamp();
        finishedRaisesTheBound();
        messagesInOrder();
        waitingMessagesInOrder();
        twoOverAllSites();
        step();
        now();
        stampAndEnd();
        marks();
        messages();
        DUE.close();
    }

    private static void writeAndCommit(WaitedCommits x, int t, int... keys) {
        DUE.yes("begin(" + t + ")", x.begin(t));
        for (int k : keys) {
            DUE.yes("write(" + t + ", " + k + ")", x.write(t, k, 100 * t + k));
        }
        DUE.yes("commit(" + t + ")", x.commit(t));
    }

    private static void commitRefused() {
        DUE.promise("8, commit refused");
        WaitedCommits x = new WaitedCommits(0);
        DUE.no("not begun", x.commit(0));
        DUE.is("state(0)", x.state(0), 0);
        int[] wrong = {-1, 5, Integer.MIN_VALUE, Integer.MAX_VALUE};
        for (int t : wrong) {
            DUE.no("commit(" + t + ")", x.commit(t));
        }
        x.begin(0);
        DUE.no("without a lock", x.commit(0));
        DUE.is("state(0)", x.state(0), 1);
        x.write(0, 1, 1);
        x.write(0, 2, 1);
        x.power(1, false);
        DUE.no("coordinator down", x.commit(0));
        DUE.is("state(0)", x.state(0), 1);
        DUE.is("messages()", x.messages(), 0);
        x.power(1, true);
        DUE.yes("coordinator up", x.commit(0));
        DUE.no("when preparing", x.commit(0));
        DUE.is("messages()", x.messages(), 1);
        x.step(9);
        DUE.is("state(0)", x.state(0), 4);
        DUE.no("when committed", x.commit(0));
        x.begin(0);
        x.write(0, 1, 1);
        x.abort(0);
        DUE.no("when aborted", x.commit(0));
        x.begin(0);
        x.write(0, 1, 1);
        DUE.yes("commit(0)", x.commit(0));
        DUE.is("state(0)", x.state(0), 3);
        DUE.no("when waiting", x.commit(0));
    }

    private static void commitOfReadsOnly() {
        DUE.promise("8, a commit that wrote nothing");
        WaitedCommits x = new WaitedCommits(2);
        x.begin(0);
        x.read(0, 4);
        x.read(0, 5);
        DUE.yes("commit(0)", x.commit(0));
        DUE.is("state(0)", x.state(0), 2);
        DUE.is("messages()", x.messages(), 1);
        x.step(2);
        DUE.is("stamp(0)", x.stamp(0), 3);
        DUE.is("step(10)", x.step(10), 1);
        DUE.is("end(0)", x.end(0), 6);
        DUE.is("holders(5)", x.holders(5), 0);
        DUE.is("version(4, 1)", x.version(4, 1), -1);
        DUE.is("bound(1)", x.bound(1), 3);
        DUE.is("bound(2)", x.bound(2), 3);
    }

    private static void theLeastParticipantCoordinates() {
        DUE.promise("8, the coordinator");
        WaitedCommits x = new WaitedCommits(0);
        writeAndCommit(x, 0, 8, 4);
        x.power(0, false);
        DUE.is("messages()", x.messages(), 1);
        x.step(1);
        DUE.is("marks(1)", x.marks(1), 0);
        DUE.is("marks(2)", x.marks(2), 1 + 8 * 1);
        DUE.is("step(1)", x.step(1), 1);
        DUE.is("holders(4)", x.holders(4), 0);
        DUE.is("holders(8)", x.holders(8), 33);
    }

    private static void otherParticipantsMayBeDown() {
        DUE.promise("8, another participant down");
        WaitedCommits x = new WaitedCommits(0);
        x.begin(0);
        x.write(0, 0, 1);
        x.write(0, 1, 1);
        x.power(1, false);
        DUE.yes("commit(0)", x.commit(0));
        DUE.is("state(0)", x.state(0), 2);
        x.step(50);
        DUE.is("state(0)", x.state(0), 2);
        DUE.is("messages()", x.messages(), 1);
        x.power(1, true);
        x.step(1);
        DUE.is("marks(1)", x.marks(1), 1 + 8 * 51);
    }

    private static void stampOfTheFloor() {
        DUE.promise("14, the floor");
        WaitedCommits x = new WaitedCommits(10);
        x.clock(1, 3, 0);
        x.clock(0, 3, 10);
        writeAndCommit(x, 0, 0, 1);
        x.clock(0, 3, 0);
        x.step(2);
        DUE.is("marks(1)", x.marks(1), 1 + 8 * 1);
        DUE.is("stamp(0)", x.stamp(0), 11);
        DUE.is("marks(0)", x.marks(0), 1 + 8 * 11);
        DUE.is("bound(0)", x.bound(0), 11);
        DUE.is("bound(1)", x.bound(1), 1);
    }

    private static void stampOfAMark() {
        DUE.promise("14, the greatest mark");
        for (int far = 1; far <= 2; far++) {
            WaitedCommits x = new WaitedCommits(15);
            x.clock(0, 3, 0);
            x.clock(1, 3, 2);
            x.clock(2, 3, 2);
            x.clock(far, 3, 14);
            writeAndCommit(x, 0, 0, 1, 2);
            x.step(2);
            DUE.is("marks(far)", x.marks(far), 1 + 8 * 15);
            DUE.is("marks(near)", x.marks(3 - far), 1 + 8 * 3);
            DUE.is("stamp(0)", x.stamp(0), 15);
        }
    }

    private static void stampOfTheBound() {
        DUE.promise("14, the coordinator's bound + 1");
        WaitedCommits x = new WaitedCommits(9);
        x.step(3);
        DUE.is("readAt(0, 12)", x.readAt(0, 12), 0);
        x.clock(0, 0, 0);
        writeAndCommit(x, 0, 0);
        DUE.is("state(0)", x.state(0), 3);
        DUE.is("stamp(0)", x.stamp(0), 13);
        DUE.is("bound(0)", x.bound(0), 13);
        writeAndCommit(x, 1, 3);
        DUE.is("stamp(1)", x.stamp(1), 14);
        DUE.is("marks(0)", x.marks(0), 2 + 8 * 13);
    }

    private static void markOfTheBound() {
        DUE.promise("16, the bound + 1");
        WaitedCommits x = new WaitedCommits(9);
        x.readAt(1, 9);
        x.clock(1, 0, 0);
        writeAndCommit(x, 0, 0, 1);
        x.clock(0, 0, 0);
        x.step(1);
        DUE.is("marks(1)", x.marks(1), 1 + 8 * 10);
        DUE.is("bound(1)", x.bound(1), 10);
        x.step(1);
        DUE.is("stamp(0)", x.stamp(0), 10);
    }

    private static void theLastPreparedStamps() {
        DUE.promise("14, the last PREPARED");
        WaitedCommits x = new WaitedCommits(0);
        x.delay(2, 5);
        writeAndCommit(x, 0, 0, 1, 2);
        x.step(2);
        DUE.is("messages() after one PREPARED", x.messages(), 1);
        DUE.is("state(0)", x.state(0), 2);
        x.step(9);
        DUE.is("state(0)", x.state(0), 2);
        DUE.is("marks(0)", x.marks(0), 0);
        x.step(1);
        DUE.is("now()", x.now(), 12);
        DUE.is("stamp(0)", x.stamp(0), 6);
    }

    private static void theEndNeedsTheCoordinator() {
        DUE.promise("11, the coordinator down");
        WaitedCommits x = new WaitedCommits(3);
        writeAndCommit(x, 0, 1, 2);
        x.step(2);
        DUE.is("state(0)", x.state(0), 3);
        DUE.is("stamp(0)", x.stamp(0), 4);
        x.power(1, false);
        x.power(2, false);
        DUE.is("step(20)", x.step(20), 0);
        x.power(1, true);
        DUE.is("step(1)", x.step(1), 1);
        DUE.is("end(0)", x.end(0), 23);
        DUE.is("holders(2) of a site down", x.holders(2), 33);
        DUE.is("marks(2)", x.marks(2), 1 + 8 * 4);
        x.step(5);
        DUE.is("messages()", x.messages(), 1);
        x.power(2, true);
        x.step(1);
        DUE.is("messages()", x.messages(), 0);
        DUE.is("holders(2)", x.holders(2), 0);
        DUE.is("marks(2)", x.marks(2), 0);
        DUE.is("version(2, 0)", x.version(2, 0), 4);
    }

    private static void theEndInTheStepOfTheStamp() {
        DUE.promise("11, stamped and committed in one step");
        WaitedCommits x = new WaitedCommits(0);
        x.delay(1, 9);
        writeAndCommit(x, 0, 0, 1);
        DUE.is("step(19)", x.step(19), 0);
        DUE.is("state(0)", x.state(0), 2);
        DUE.is("step(1)", x.step(1), 1);
        DUE.is("stamp(0)", x.stamp(0), 10);
        DUE.is("end(0)", x.end(0), 20);
    }

    private static void finishedRaisesTheBound() {
        DUE.promise("18, finished raises the bound");
        WaitedCommits x = new WaitedCommits(10);
        x.clock(1, 0, 0);
        writeAndCommit(x, 0, 0, 1);
        x.step(2);
        DUE.is("stamp(0)", x.stamp(0), 11);
        DUE.is("bound(1) after its mark", x.bound(1), 1);
        x.clock(0, 0, 0);
        DUE.is("step(10)", x.step(10), 1);
        DUE.is("bound(1) before COMMIT", x.bound(1), 1);
        x.step(1);
        DUE.is("bound(1) after COMMIT", x.bound(1), 11);
        DUE.is("version(1, 0)", x.version(1, 0), 11);
        x.readAt(1, 13);
        DUE.is("bound(1) of a later read", x.bound(1), 13);
    }

    private static void messagesInOrder() {
        DUE.promise("11, the one that was sent first");
        int[][] orders = {{3, 1}, {1, 3}};
        for (int[] order : orders) {
            WaitedCommits x = new WaitedCommits(0);
            x.delay(1, 2);
            writeAndCommit(x, order[0], 0, 1);
            x.step(2);
            x.delay(1, 0);
            writeAndCommit(x, order[1], 3, 4);
            x.step(1);
            DUE.is("marks(1)", x.marks(1), 2 + 8 * 3);
            x.power(0, false);
            x.step(1);
            DUE.is("messages()", x.messages(), 2);
            x.power(0, true);
            x.step(1);
            DUE.is("stamp of the first", x.stamp(order[0]), 3);
            DUE.is("stamp of the second", x.stamp(order[1]), 4);
        }
    }

    private static void waitingMessagesInOrder() {
        DUE.promise("11, the one that was to arrive first");
        WaitedCommits x = new WaitedCommits(0);
        x.delay(0, 9);
        x.begin(0);
        x.write(0, 0, 1);
        x.write(0, 2, 1);
        x.begin(1);
        x.write(1, 1, 1);
        x.write(1, 5, 1);
        x.power(2, false);
        x.commit(0);
        x.commit(1);
        x.step(20);
        DUE.is("messages()", x.messages(), 2);
        x.power(2, true);
        x.delay(0, 0);
        x.step(1);
        DUE.is("marks(2)", x.marks(2), 2 + 8 * 21);
        x.step(1);
        DUE.is("stamp(0), whose message was to arrive at 10", x.stamp(0), 22);
        DUE.is("stamp(1), whose message was to arrive at 1", x.stamp(1), 21);
    }

    private static void twoOverAllSites() {
        DUE.promise("11 and 21, two over all sites");
        WaitedCommits x = new WaitedCommits(0);
        writeAndCommit(x, 0, 2, 1, 0);
        writeAndCommit(x, 1, 5, 4, 3);
        DUE.is("messages()", x.messages(), 4);
        x.step(1);
        DUE.is("marks(1)", x.marks(1), 2 + 8 * 1);
        DUE.is("marks(2)", x.marks(2), 2 + 8 * 1);
        DUE.is("messages()", x.messages(), 4);
        x.step(1);
        DUE.is("stamp(0)", x.stamp(0), 1);
        DUE.is("stamp(1)", x.stamp(1), 2);
        DUE.is("end(0)", x.end(0), 2);
        x.step(1);
        DUE.is("end(1)", x.end(1), 3);
    }

    private static void step() {
        DUE.promise("11, step");
        WaitedCommits x = new WaitedCommits(1);
        int[] wrong = {-1, 501, Integer.MIN_VALUE, Integer.MAX_VALUE};
        for (int n : wrong) {
            DUE.is("step(" + n + ")", x.step(n), -1);
            DUE.is("now()", x.now(), 0);
        }
        DUE.is("step(0)", x.step(0), 0);
        DUE.is("now()", x.now(), 0);
        for (int t = 0; t < 5; t++) {
            writeAndCommit(x, t, t);
        }
        DUE.is("step(3)", x.step(3), 0);
        DUE.is("step(1): 0, 1 and 2", x.step(1), 3);
        DUE.is("step(1): 3 and 4, of stamp 3", x.step(1), 2);
        for (int t = 0; t < 5; t++) {
            writeAndCommit(x, t, t);
        }
        DUE.is("step(500)", x.step(500), 5);
        DUE.is("now()", x.now(), 505);
    }

    private static void now() {
        DUE.promise("12, now");
        WaitedCommits x = new WaitedCommits(4);
        DUE.is("now()", x.now(), 0);
        x.step(1);
        DUE.is("now()", x.now(), 1);
        x.clock(0, 1, 3);
        x.step(499);
        DUE.is("now()", x.now(), 500);
        for (int i = 0; i < 500; i++) {
            x.step(500);
        }
        DUE.is("now()", x.now(), 250500);
        DUE.is("safe(0)", x.safe(0), 250503);
    }

    private static void stampAndEnd() {
        DUE.promise("14 and 15, stamp and end");
        WaitedCommits x = new WaitedCommits(4);
        int[] wrong = {-1, 5, Integer.MIN_VALUE, Integer.MAX_VALUE};
        for (int t : wrong) {
            DUE.is("stamp(" + t + ")", x.stamp(t), -1);
            DUE.is("end(" + t + ")", x.end(t), -1);
        }
        x.step(7);
        x.begin(0);
        x.write(0, 0, 1);
        x.write(0, 2, 1);
        DUE.is("stamp when active", x.stamp(0), -1);
        DUE.is("end when active", x.end(0), -1);
        x.commit(0);
        DUE.is("stamp when preparing", x.stamp(0), -1);
        x.step(1);
        DUE.is("stamp when preparing", x.stamp(0), -1);
        x.step(1);
        DUE.is("stamp when waiting", x.stamp(0), 12);
        DUE.is("end when waiting", x.end(0), -1);
        DUE.is("step(7)", x.step(7), 0);
        DUE.is("step(1)", x.step(1), 1);
        x.step(30);
        DUE.is("stamp when committed", x.stamp(0), 12);
        DUE.is("end when committed", x.end(0), 17);
        x.begin(0);
        DUE.is("stamp when begun again", x.stamp(0), -1);
        DUE.is("end when begun again", x.end(0), -1);
        x.abort(0);
        DUE.is("stamp when aborted", x.stamp(0), -1);
        DUE.is("end when aborted", x.end(0), -1);
    }

    private static void marks() {
        DUE.promise("16, marks");
        WaitedCommits x = new WaitedCommits(20);
        for (int t = 0; t < 5; t++) {
            writeAndCommit(x, t, 3 * (t % 3) + t / 3);
        }
        DUE.is("marks(0)", x.marks(0), 3 + 8 * 21);
        DUE.is("marks(1)", x.marks(1), 2 + 8 * 21);
        DUE.is("marks(2)", x.marks(2), 0);
        int[] wrong = {-1, 3, Integer.MIN_VALUE, Integer.MAX_VALUE};
        for (int p : wrong) {
            DUE.is("marks(" + p + ")", x.marks(p), 0);
        }
        DUE.is("step(42)", x.step(42), 2);
        DUE.is("marks(0)", x.marks(0), 2 + 8 * 22);
        DUE.is("marks(1)", x.marks(1), 1 + 8 * 22);
        DUE.is("step(10)", x.step(10), 3);
        DUE.is("marks(0)", x.marks(0), 0);
    }

    private static void messages() {
        DUE.promise("21, messages");
        WaitedCommits x = new WaitedCommits(0);
        x.delay(1, 1);
        writeAndCommit(x, 0, 0, 1, 2);
        DUE.is("two PREPARE", x.messages(), 2);
        x.power(2, false);
        x.step(2);
        DUE.is("a PREPARED, and one that waits", x.messages(), 2);
        x.step(2);
        DUE.is("one that waits", x.messages(), 1);
        x.power(2, true);
        DUE.is("it waits until a step", x.messages(), 1);
        x.power(0, false);
        x.step(9);
        DUE.is("a PREPARED that waits", x.messages(), 1);
        x.power(0, true);
        DUE.is("step(1)", x.step(1), 1);
        DUE.is("two COMMIT", x.messages(), 2);
        x.step(1);
        DUE.is("one COMMIT", x.messages(), 1);
        x.step(1);
        DUE.is("none", x.messages(), 0);
    }
}
