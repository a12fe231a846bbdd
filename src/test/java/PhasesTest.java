/** The sentences under COMMITTING, A STEP and A READ AT, each at its edges. */
public final class PhasesTest {
    private static final Due DUE = new Due();
    private static final long REFUSED = WaitedCommits.REFUSED;
    private static final long LOST = WaitedCommits.LOST;

    private PhasesTest() {}

    public static void main(String[] args) {
        participantsAndCoordinator();
        sharedLocksMakeParticipants();
        participantsOfEarlierLives();
        arrivalWithTheDelaysOfBoth();
        delaysWhenItIsSent();
        itWaitsWhileTheReceiverIsDown();
        downBetweenTwoStepsOnly();
        theSenderMayBeDown();
        theFloor();
        aPrepareToEachOther();
        noOtherParticipant();
        theMarkIsTheGreater();
        theLastPrepared();
        theStampIsTheGreatest();
        theStampIsTheMarkAndTheBound();
        stampsOfOneSiteAllDiffer();
        theEndIsAfterTheStamp();
        theEndComesInAStep();
        theEndNeedsTheCoordinatorUp();
        theEndNeedsTheCoordinatorsClock();
        finishedAtTheCoordinatorAtOnce();
        finishedElsewhereWhenCommitArrives();
        finishedKeysThatWereWritten();
        finishedKeepsOthersLocksAndMarks();
        finishedRaisesTheBound();
        nowGrowsByOne();
        theOneThatWasToArriveFirst();
        ofEqualsTheOneSentFirst();
        whatIsSentMeanwhileArrivesLater();
        messagesBeforeEnds();
        allFiveEndInOneStep();
        readyWhenUp();
        readyUpToTheLatestTime();
        readyBelowEveryMark();
        aReadRaisesTheBound();
        theGreatestStampAtMostR();
        lostBelowAllStamps();
        DUE.close();
    }

    private static void participantsAndCoordinator() {
        DUE.promise("The PARTICIPANTS are the sites where it holds a lock, the COORDINATOR is the least");
        for (int sites = 1; sites < 8; sites++) {
            WaitedCommits x = Edges.begun(3, 0);
            // From the greatest site down, so that the order of locking is not the order of sites.
            for (int p = 2; p >= 0; p--) {
                if ((sites >> p & 1) != 0) {
                    x.write(0, p + 3, 1);
                }
            }
            int coordinator = Integer.numberOfTrailingZeros(sites);
            for (int p = 0; p < 3; p++) {
                x.power(p, p == coordinator);
            }
            DUE.yes("commit with the least one up", x.commit(0));
            DUE.is("messages()", x.messages(), Integer.bitCount(sites) - 1);
            for (int p = 0; p < 3; p++) {
                x.power(p, true);
            }
            x.step(2);
            for (int p = 0; p < 3; p++) {
                DUE.is("marks(" + p + ") of " + sites, x.marks(p), (sites >> p & 1) == 0 ? 0 : Edges.marks(1, 4));
            }
            x.power(coordinator, false);
            DUE.is("step(30) without the coordinator", x.step(30), 0);
            x.power(coordinator, true);
            DUE.is("step(1)", x.step(1), 1);
        }
    }

    private static void sharedLocksMakeParticipants() {
        DUE.promise("the sites where it holds a lock: also a shared one");
        WaitedCommits x = Edges.begun(0, 0);
        x.read(0, 0);
        x.write(0, 1, 1);
        x.read(0, 8);
        x.commit(0);
        DUE.is("messages()", x.messages(), 2);
        x.step(1);
        DUE.is("marks(1)", x.marks(1), Edges.marks(1, 1));
        DUE.is("marks(2)", x.marks(2), Edges.marks(1, 1));
        x.step(1);
        DUE.is("end(0)", x.end(0), 2);
    }

    private static void participantsOfEarlierLives() {
        DUE.promise("the sites where it holds a lock: not those where it held one");
        WaitedCommits x = Edges.begun(0, 0);
        x.write(0, 0, 1);
        x.write(0, 2, 1);
        x.abort(0);
        Edges.writeAndCommit(x, 0, 1);
        DUE.is("messages()", x.messages(), 0);
        DUE.is("marks(0)", x.marks(0), 0);
        DUE.is("marks(1)", x.marks(1), Edges.marks(1, 1));
        DUE.is("step(2)", x.step(2), 1);
        Edges.writeAndCommit(x, 0, 2);
        DUE.is("marks(1)", x.marks(1), 0);
        DUE.is("marks(2)", x.marks(2), Edges.marks(1, 3));
    }

    private static void arrivalWithTheDelaysOfBoth() {
        DUE.promise("arrives at now + 1 + the delays that both have");
        int[][] pairs = {{0, 1, 2}, {0, 2, 1}, {1, 2, 0}};
        int[] delays = {0, 1, 8, 9};
        for (int[] pair : pairs) {
            for (int one : delays) {
                for (int other : delays) {
                    WaitedCommits x = new WaitedCommits(0);
                    x.delay(pair[0], one);
                    x.delay(pair[1], other);
                    x.delay(pair[2], 5);
                    x.step(4);
                    Edges.writeAndCommit(x, 0, pair[0], pair[1]);
                    x.step(one + other);
                    DUE.is("marks a step before", x.marks(pair[1]), 0);
                    x.step(1);
                    DUE.is("marks", x.marks(pair[1]), Edges.marks(1, 5 + one + other));
                    x.step(one + other);
                    DUE.is("state a step before", x.state(0), 2);
                    DUE.is("step(1): stamped and committed", x.step(1), 1);
                    x.step(one + other);
                    DUE.is("messages() a step before", x.messages(), 1);
                    x.step(1);
                    DUE.is("messages()", x.messages(), 0);
                    DUE.is("now()", x.now(), 7 + 3 * (one + other));
                }
            }
        }
    }

    private static void delaysWhenItIsSent() {
        DUE.promise("the delays that both have when it is sent");
        WaitedCommits x = new WaitedCommits(0);
        x.delay(0, 2);
        x.delay(1, 3);
        Edges.writeAndCommit(x, 0, 0, 1);
        x.delay(0, 9);
        x.delay(1, 0);
        x.step(5);
        DUE.is("marks(1)", x.marks(1), 0);
        x.step(1);
        DUE.is("marks(1)", x.marks(1), Edges.marks(1, 6));
        x.delay(0, 0);
        x.step(9);
        DUE.is("state(0)", x.state(0), 2);
        DUE.is("step(1)", x.step(1), 1);
        DUE.is("end(0)", x.end(0), 16);
    }

    private static void itWaitsWhileTheReceiverIsDown() {
        DUE.promise("while its receiver is down, it waits there");
        WaitedCommits x = new WaitedCommits(0);
        Edges.writeAndCommit(x, 0, 0, 1);
        x.power(1, false);
        x.step(10);
        DUE.is("messages(): the PREPARE", x.messages(), 1);
        DUE.is("marks(1)", x.marks(1), 0);
        x.power(1, true);
        DUE.is("step(0)", x.step(0), 0);
        DUE.is("marks(1) before a step", x.marks(1), 0);
        x.step(1);
        DUE.is("marks(1)", x.marks(1), Edges.marks(1, 11));
        x.power(0, false);
        x.step(10);
        DUE.is("messages(): the PREPARED", x.messages(), 1);
        DUE.is("state(0)", x.state(0), 2);
        x.power(0, true);
        DUE.is("state(0) before a step", x.state(0), 2);
        x.power(1, false);
        DUE.is("step(1)", x.step(1), 1);
        x.step(10);
        DUE.is("messages(): the COMMIT", x.messages(), 1);
        DUE.is("holders(1)", x.holders(1), 33);
        x.power(1, true);
        DUE.is("holders(1) before a step", x.holders(1), 33);
        x.step(1);
        DUE.is("holders(1)", x.holders(1), 0);
        DUE.is("messages()", x.messages(), 0);
    }

    private static void downBetweenTwoStepsOnly() {
        DUE.promise("while its receiver is down: not when it was down before");
        WaitedCommits x = new WaitedCommits(0);
        x.delay(1, 4);
        Edges.writeAndCommit(x, 0, 0, 1);
        x.power(1, false);
        x.step(4);
        x.power(1, true);
        x.step(1);
        DUE.is("marks(1)", x.marks(1), Edges.marks(1, 5));
    }

    private static void theSenderMayBeDown() {
        DUE.promise("its receiver: the sender may be down");
        WaitedCommits x = new WaitedCommits(0);
        Edges.writeAndCommit(x, 0, 0, 1);
        x.power(0, false);
        x.step(1);
        DUE.is("marks(1)", x.marks(1), Edges.marks(1, 1));
        x.power(0, true);
        x.power(1, false);
        DUE.is("step(1)", x.step(1), 1);
    }

    private static void theFloor() {
        DUE.promise("its FLOOR is the coordinator's latest time + 1");
        for (int b = 0; b <= 20; b += 5) {
            WaitedCommits x = new WaitedCommits(20);
            x.step(7);
            x.clock(1, 20, b);
            x.clock(2, 20, 0);
            Edges.writeAndCommit(x, 0, 1);
            DUE.is("stamp(0)", x.stamp(0), 7 + b + 1);
            x = new WaitedCommits(20);
            x.clock(1, 20, b);
            x.clock(2, 20, 0);
            Edges.writeAndCommit(x, 0, 1, 2);
            x.clock(1, 20, 20 - b);
            x.step(2);
            DUE.is("stamp(0), of the clock when it began", x.stamp(0), b + 1);
        }
    }

    private static void aPrepareToEachOther() {
        DUE.promise("a PREPARE is sent to each other participant");
        WaitedCommits x = new WaitedCommits(0);
        x.delay(2, 1);
        Edges.writeAndCommit(x, 0, 8, 7, 6, 5, 4, 3, 2, 1, 0);
        DUE.is("messages()", x.messages(), 2);
        DUE.is("state(0)", x.state(0), 2);
        x.step(1);
        DUE.is("marks(0)", x.marks(0), 0);
        DUE.is("marks(1)", x.marks(1), Edges.marks(1, 1));
        DUE.is("marks(2)", x.marks(2), 0);
        x.step(1);
        DUE.is("marks(2)", x.marks(2), Edges.marks(1, 2));
    }

    private static void noOtherParticipant() {
        DUE.promise("If there is no other, t is STAMPED at once");
        for (int p = 0; p < 3; p++) {
            WaitedCommits x = new WaitedCommits(0);
            Edges.writeAndCommit(x, 0, p, p + 3, p + 6);
            DUE.is("state(0)", x.state(0), 3);
            DUE.is("stamp(0)", x.stamp(0), 1);
            DUE.is("marks", x.marks(p), Edges.marks(1, 1));
            DUE.is("bound", x.bound(p), 1);
            DUE.is("messages()", x.messages(), 0);
            DUE.is("end(0)", x.end(0), -1);
        }
    }

    private static void theMarkIsTheGreater() {
        DUE.promise("the greater of p's latest time and its bound + 1 is t's MARK at p, and p's bound");
        for (int b = 0; b <= 20; b++) {
            WaitedCommits x = new WaitedCommits(20);
            x.readAt(1, 10);
            x.clock(1, 0, b);
            x.clock(0, 0, 0);
            Edges.writeAndCommit(x, 0, 0, 1);
            x.step(1);
            int mark = Math.max(1 + b, 11);
            DUE.is("marks(1) with latest " + (1 + b), x.marks(1), Edges.marks(1, mark));
            DUE.is("bound(1)", x.bound(1), mark);
            DUE.is("bound(0)", x.bound(0), 0);
            x.step(1);
            DUE.is("stamp(0)", x.stamp(0), mark);
        }
    }

    private static void theLastPrepared() {
        DUE.promise("when it is the last of them, t is stamped");
        for (int slow = 1; slow <= 2; slow++) {
            WaitedCommits x = new WaitedCommits(0);
            Edges.writeAndCommit(x, 0, 0, 1, 2);
            x.power(slow, false);
            x.step(7);
            DUE.is("state(0) after one of two", x.state(0), 2);
            DUE.is("stamp(0)", x.stamp(0), -1);
            DUE.is("marks(0)", x.marks(0), 0);
            DUE.is("bound(0)", x.bound(0), 0);
            x.power(slow, true);
            x.step(1);
            DUE.is("state(0)", x.state(0), 2);
            DUE.is("step(1)", x.step(1), 1);
            DUE.is("stamp(0)", x.stamp(0), 8);
        }
    }

    private static void theStampIsTheGreatest() {
        DUE.promise("t's stamp is the greatest of its floor, its marks, and the coordinator's bound + 1");
        int[][] cases = {
            {9, 5, 5, 5, 10}, {5, 9, 5, 5, 10}, {5, 5, 9, 5, 10}, {5, 5, 5, 9, 10},
            {9, 8, 8, 8, 10}, {8, 9, 8, 8, 10}, {8, 8, 9, 8, 10}, {8, 8, 8, 9, 10}, {9, 9, 9, 9, 10}};
        for (int[] one : cases) {
            WaitedCommits x = new WaitedCommits(20);
            x.clock(0, 0, one[0]);
            x.clock(1, 0, one[1]);
            x.clock(2, 0, one[2]);
            Edges.writeAndCommit(x, 0, 0, 1, 2);
            x.clock(0, 0, 20);
            DUE.is("readAt(3, r)", x.readAt(3, one[3]), 0);
            x.step(2);
            DUE.is("stamp(0)", x.stamp(0), one[4]);
        }
    }

    private static void theStampIsTheMarkAndTheBound() {
        DUE.promise("it is t's mark at the coordinator, and the coordinator's bound; t is waiting");
        WaitedCommits x = new WaitedCommits(20);
        x.clock(2, 0, 4);
        Edges.writeAndCommit(x, 3, 1, 2);
        x.step(2);
        DUE.is("stamp(3)", x.stamp(3), 21);
        DUE.is("marks(1)", x.marks(1), Edges.marks(1, 21));
        DUE.is("bound(1)", x.bound(1), 21);
        DUE.is("marks(2), of its own", x.marks(2), Edges.marks(1, 5));
        DUE.is("bound(2)", x.bound(2), 5);
        DUE.is("bound(0)", x.bound(0), 0);
        DUE.is("state(3)", x.state(3), 3);
    }

    private static void stampsOfOneSiteAllDiffer() {
        DUE.promise("the coordinator's bound + 1: five of one time");
        WaitedCommits x = new WaitedCommits(2);
        for (int t = 4; t >= 0; t--) {
            Edges.readAndCommit(x, t, 0);
            DUE.is("stamp(" + t + ")", x.stamp(t), 3 + 4 - t);
            DUE.is("bound(0)", x.bound(0), 3 + 4 - t);
            DUE.is("marks(0)", x.marks(0), Edges.marks(5 - t, 3));
        }
    }

    private static void theEndIsAfterTheStamp() {
        DUE.promise("its earliest time is greater than t's stamp");
        for (int a = 0; a <= 20; a++) {
            WaitedCommits x = new WaitedCommits(20);
            x.clock(0, a, 3);
            Edges.writeAndCommit(x, 0, 0);
            DUE.is("stamp(0)", x.stamp(0), 4);
            DUE.is("step: the earliest time is the stamp", x.step(4 + a), 0);
            DUE.is("state(0)", x.state(0), 3);
            DUE.is("step(1)", x.step(1), 1);
            DUE.is("state(0)", x.state(0), 4);
            DUE.is("end(0)", x.end(0), 5 + a);
        }
    }

    private static void theEndComesInAStep() {
        DUE.promise("THE END of the waiting comes in a step");
        WaitedCommits x = new WaitedCommits(20);
        Edges.writeAndCommit(x, 0, 0);
        x.step(30);
        x.clock(0, 0, 20);
        DUE.is("state(0) when the clock is better", x.state(0), 3);
        DUE.is("step(0)", x.step(0), 0);
        Edges.writeAndCommit(x, 1, 3);
        x.readAt(0, 3);
        x.power(0, false);
        x.power(0, true);
        DUE.is("state(0)", x.state(0), 3);
        DUE.is("step(1)", x.step(1), 1);
        DUE.is("end(0)", x.end(0), 31);
    }

    private static void theEndNeedsTheCoordinatorUp() {
        DUE.promise("in which the coordinator is up");
        for (int p = 0; p < 3; p++) {
            WaitedCommits x = new WaitedCommits(0);
            Edges.writeAndCommit(x, 0, p);
            for (int q = 0; q < 3; q++) {
                x.power(q, false);
            }
            DUE.is("step(9) with all down", x.step(9), 0);
            x.power((p + 1) % 3, true);
            x.power((p + 2) % 3, true);
            DUE.is("step(1) with the others up", x.step(1), 0);
            x.power((p + 1) % 3, false);
            x.power((p + 2) % 3, false);
            x.power(p, true);
            DUE.is("state(0)", x.state(0), 3);
            DUE.is("step(1) with it up", x.step(1), 1);
            DUE.is("end(0)", x.end(0), 11);
        }
    }

    private static void theEndNeedsTheCoordinatorsClock() {
        DUE.promise("its earliest time: the coordinator's");
        WaitedCommits x = new WaitedCommits(6);
        x.clock(1, 4, 0);
        x.clock(0, 0, 0);
        x.clock(2, 0, 0);
        Edges.writeAndCommit(x, 0, 1, 2);
        x.step(2);
        DUE.is("stamp(0)", x.stamp(0), 1);
        DUE.is("step(3)", x.step(3), 0);
        DUE.is("step(1)", x.step(1), 1);
    }

    private static void finishedAtTheCoordinatorAtOnce() {
        DUE.promise("t is committed, it is FINISHED at the coordinator, and a COMMIT is sent to each other");
        WaitedCommits x = new WaitedCommits(0);
        Edges.writeAndCommit(x, 0, 0, 1, 2);
        DUE.is("step(2)", x.step(2), 1);
        DUE.is("state(0)", x.state(0), 4);
        DUE.is("messages()", x.messages(), 2);
        int[] holders = {0, 33, 33};
        int[] marks = {0, Edges.marks(1, 1), Edges.marks(1, 1)};
        int[] newest = {1, 0, 0};
        for (int p = 0; p < 3; p++) {
            DUE.is("holders(" + p + ")", x.holders(p), holders[p]);
            DUE.is("marks(" + p + ")", x.marks(p), marks[p]);
            DUE.is("version(" + p + ", 0)", x.version(p, 0), newest[p]);
        }
    }

    private static void finishedElsewhereWhenCommitArrives() {
        DUE.promise("When that arrives, t is finished there");
        WaitedCommits x = new WaitedCommits(0);
        Edges.writeAndCommit(x, 0, 0, 1, 2);
        x.delay(2, 6);
        x.step(1);
        x.delay(2, 2);
        x.step(7);
        DUE.is("state(0)", x.state(0), 4);
        x.step(1);
        DUE.is("holders(1)", x.holders(1), 0);
        DUE.is("marks(1)", x.marks(1), 0);
        DUE.is("version(1, 0)", x.version(1, 0), 1);
        DUE.is("holders(2)", x.holders(2), 33);
        DUE.is("marks(2)", x.marks(2), Edges.marks(1, 1));
        DUE.is("version(2, 0)", x.version(2, 0), 0);
        x.step(2);
        DUE.is("holders(2)", x.holders(2), 0);
        DUE.is("marks(2)", x.marks(2), 0);
        DUE.is("version(2, 0)", x.version(2, 0), 1);
        DUE.is("readAt(2, 1)", x.readAt(2, 1), 2);
    }

    private static void finishedKeysThatWereWritten() {
        DUE.promise("each key at p that t wrote gets a version with that value and t's stamp");
        WaitedCommits x = Edges.begun(0, 1);
        for (int k = 0; k < 9; k += 2) {
            x.write(1, k, -1);
            x.write(1, k, 70 + k);
        }
        x.read(1, 1);
        x.read(1, 3);
        x.read(1, 4);
        x.commit(1);
        x.step(5);
        for (int k = 0; k < 9; k++) {
            DUE.is("version(" + k + ", 0)", x.version(k, 0), k % 2 == 0 ? 1 : 0);
            DUE.is("version(" + k + ", 1)", x.version(k, 1), k % 2 == 0 ? 0 : -1);
            DUE.is("readAt(" + k + ", 1)", x.readAt(k, 1), k % 2 == 0 ? 70 + k : 0);
        }
    }

    private static void finishedKeepsOthersLocksAndMarks() {
        DUE.promise("t's locks at p and its mark at p are gone");
        WaitedCommits x = new WaitedCommits(0);
        Edges.readAndCommit(x, 0, 0, 3);
        Edges.readAndCommit(x, 1, 0, 6);
        x.begin(2);
        x.read(2, 0);
        DUE.is("marks(0)", x.marks(0), Edges.marks(2, 1));
        DUE.is("step(2)", x.step(2), 1);
        DUE.is("marks(0)", x.marks(0), Edges.marks(1, 2));
        DUE.is("holders(0)", x.holders(0), 6);
        DUE.is("holders(3)", x.holders(3), 0);
        DUE.is("holders(6)", x.holders(6), 2);
        DUE.is("step(1)", x.step(1), 1);
        DUE.is("marks(0)", x.marks(0), 0);
        DUE.is("holders(0)", x.holders(0), 4);
    }

    private static void finishedRaisesTheBound() {
        DUE.promise("p's bound is raised to t's stamp, if it was less");
        for (int others = 0; others <= 4; others++) {
            WaitedCommits x = new WaitedCommits(9);
            x.clock(0, 0, 4);
            x.clock(1, 0, 0);
            Edges.writeAndCommit(x, 0, 0, 1);
            x.step(2);
            DUE.is("stamp(0)", x.stamp(0), 5);
            DUE.is("bound(1)", x.bound(1), 1);
            // The stamps of the others bring the bound to 3, 4, 5, 6: less, equal and greater.
            for (int t = 1; t <= others; t++) {
                Edges.readAndCommit(x, t, 4);
            }
            int bound = others == 0 ? 1 : 2 + others;
            DUE.is("bound(1)", x.bound(1), bound);
            x.step(4);
            DUE.is("end(0)", x.end(0), 6);
            DUE.is("bound(1) before COMMIT arrives", x.bound(1), bound);
            x.step(1);
            DUE.is("bound(1)", x.bound(1), Math.max(bound, 5));
        }
    }

    private static void nowGrowsByOne() {
        DUE.promise("A STEP: now grows by 1");
        WaitedCommits x = Scenes.busy();
        for (int i = 1; i <= 40; i++) {
            x.step(1);
            DUE.is("now()", x.now(), 20 + i);
        }
    }

    private static void theOneThatWasToArriveFirst() {
        DUE.promise("one by one: the one that was to arrive first");
        for (int late = 0; late < 2; late++) {
            int early = 1 - late;
            WaitedCommits x = Edges.begun(0, 0, 1);
            x.write(0, 0, 1);
            x.write(0, 2, 1);
            x.write(1, 1, 1);
            x.write(1, 5, 1);
            x.power(2, false);
            // The one sent first is to arrive last.
            x.delay(late, 5);
            x.commit(late);
            x.commit(early);
            x.step(8);
            x.delay(late, 0);
            x.power(2, true);
            x.step(2);
            DUE.is("stamp of the one to arrive at 1", x.stamp(early), 9);
            DUE.is("stamp of the one to arrive at 6", x.stamp(late), 10);
        }
    }

    private static void ofEqualsTheOneSentFirst() {
        DUE.promise("of equals the one that was sent first");
        for (int first = 0; first < 5; first++) {
            for (int second = 0; second < 5; second++) {
                if (first != second) {
                    WaitedCommits x = new WaitedCommits(0);
                    x.delay(2, 3);
                    Edges.writeAndCommit(x, first, 0, 2);
                    x.step(3);
                    x.delay(2, 0);
                    Edges.writeAndCommit(x, second, 1, 5);
                    x.step(1);
                    DUE.is("marks(2)", x.marks(2), Edges.marks(2, 4));
                    x.step(1);
                    DUE.is("stamp of the first", x.stamp(first), 4);
                    DUE.is("stamp of the second", x.stamp(second), 5);
                }
            }
        }
    }

    private static void whatIsSentMeanwhileArrivesLater() {
        DUE.promise("(What is sent meanwhile arrives later.)");
        WaitedCommits x = new WaitedCommits(0);
        Edges.writeAndCommit(x, 0, 0, 1);
        x.power(1, false);
        x.step(5);
        x.power(1, true);
        DUE.is("step(1): PREPARE", x.step(1), 0);
        DUE.is("state(0)", x.state(0), 2);
        DUE.is("messages(): PREPARED", x.messages(), 1);
        DUE.is("step(1)", x.step(1), 1);
        DUE.is("messages(): COMMIT", x.messages(), 1);
        DUE.is("holders(1)", x.holders(1), 33);
        x.step(1);
        DUE.is("messages()", x.messages(), 0);
    }

    private static void messagesBeforeEnds() {
        DUE.promise("Then for t = 0 .. 4, if t is waiting, the end of the waiting is looked for");
        for (int t = 0; t < 5; t++) {
            WaitedCommits x = new WaitedCommits(0);
            Edges.writeAndCommit(x, t, 0, 1);
            DUE.is("step(1)", x.step(1), 0);
            DUE.is("step(1): stamped 1 at 2, and committed", x.step(1), 1);
            DUE.is("stamp", x.stamp(t), 1);
            DUE.is("end", x.end(t), 2);
        }
    }

    private static void allFiveEndInOneStep() {
        DUE.promise("Then for t = 0 .. 4: all of them");
        WaitedCommits x = new WaitedCommits(20);
        for (int t = 0; t < 5; t++) {
            Edges.writeAndCommit(x, t, 3 * (t / 3) + t % 3);
        }
        DUE.is("step(40)", x.step(40), 0);
        for (int p = 0; p < 3; p++) {
            x.clock(p, 0, 0);
        }
        DUE.is("step(1)", x.step(1), 5);
        for (int t = 0; t < 5; t++) {
            DUE.is("end(" + t + ")", x.end(t), 41);
        }
    }

    private static void readyWhenUp() {
        DUE.promise("READY when p is up");
        for (int k = 0; k < 9; k++) {
            WaitedCommits x = new WaitedCommits(0);
            x.step(3);
            x.power(k % 3, false);
            DUE.is("readAt(k, 3), down", x.readAt(k, 3), REFUSED);
            DUE.is("readAt(k, -1), down", x.readAt(k, -1), REFUSED);
            DUE.is("bound", x.bound(k % 3), 0);
            x.power(k % 3, true);
            DUE.is("readAt(k, 3), up", x.readAt(k, 3), 0);
            DUE.is("bound", x.bound(k % 3), 3);
        }
    }

    private static void readyUpToTheLatestTime() {
        DUE.promise("r is at most p's latest time");
        for (int b = 0; b <= 20; b++) {
            WaitedCommits x = new WaitedCommits(20);
            x.step(5);
            x.clock(2, 0, b);
            DUE.is("readAt(8, latest + 1)", x.readAt(8, 6 + b), REFUSED);
            DUE.is("bound(2)", x.bound(2), 0);
            DUE.is("readAt(8, latest)", x.readAt(8, 5 + b), 0);
            DUE.is("bound(2)", x.bound(2), 5 + b);
        }
    }

    private static void readyBelowEveryMark() {
        DUE.promise("and r is less than every mark at p");
        int[][] orders = {{0, 1, 2}, {2, 1, 0}, {1, 4, 3}, {4, 0, 2}};
        for (int[] order : orders) {
            WaitedCommits x = new WaitedCommits(2);
            for (int i = 0; i < 3; i++) {
                Edges.writeAndCommit(x, order[i], 3 * i);
                DUE.is("stamp", x.stamp(order[i]), 3 + i);
            }
            x.step(5);
            for (int i = 0; i < 3; i++) {
                for (int r = 3 + i; r <= 7; r++) {
                    DUE.is("readAt(0, r) from the least mark on", x.readAt(0, r), REFUSED);
                }
                DUE.is("readAt(6, r) below it", x.readAt(6, 2 + i), 0);
                DUE.is("step(1)", x.step(1), 1);
            }
            DUE.is("readAt(6, 5)", x.readAt(6, 5), 100 * order[2] + 6);
            DUE.is("readAt(6, 4)", x.readAt(6, 4), 0);
            DUE.is("readAt(6, latest)", x.readAt(6, 10), 100 * order[2] + 6);
        }
    }

    private static void aReadRaisesTheBound() {
        DUE.promise("It raises p's bound to r, if it was less");
        for (int k = 0; k < 9; k++) {
            WaitedCommits x = new WaitedCommits(20);
            int[] times = {Integer.MIN_VALUE, -1, 0, 1, 0, 6, 5, 6, 7, 20, 19, 0, -1};
            int bound = 0;
            for (int r : times) {
                DUE.is("readAt(k, " + r + ")", x.readAt(k, r), r < 0 ? LOST : 0);
                bound = Math.max(bound, r);
                DUE.is("bound", x.bound(k % 3), bound);
                DUE.is("bound of the next site", x.bound((k + 1) % 3), 0);
                DUE.is("bound of the site after it", x.bound((k + 2) % 3), 0);
            }
        }
    }

    private static void theGreatestStampAtMostR() {
        DUE.promise("Its answer is the value of the version of the greatest stamp that is at most r");
        WaitedCommits x = new WaitedCommits(0);
        int[] stamps = {6, 17, 28};
        for (int i = 0; i < 3; i++) {
            x.step(stamps[i] - 1 - x.now());
            Edges.writeAndCommit(x, 1 + i, 8);
            DUE.is("stamp", x.stamp(1 + i), stamps[i]);
            x.step(2);
        }
        x.step(10);
        for (int i = 0; i < 3; i++) {
            DUE.is("readAt(8, stamp - 1)", x.readAt(8, stamps[i] - 1), i == 0 ? 0 : 100 * i + 8);
            DUE.is("readAt(8, stamp)", x.readAt(8, stamps[i]), 100 * (1 + i) + 8);
            DUE.is("readAt(8, stamp + 1)", x.readAt(8, stamps[i] + 1), 100 * (1 + i) + 8);
        }
        DUE.is("readAt(8, 0)", x.readAt(8, 0), 0);
        DUE.is("readAt(8, now)", x.readAt(8, x.now()), 308);
    }

    private static void lostBelowAllStamps() {
        DUE.promise("when r is less than the stamps of all versions kept, it is LOST");
        WaitedCommits x = new WaitedCommits(0);
        x.step(4);
        for (int n = 0; n < 4; n++) {
            DUE.is("readAt(7, 0) with one of the first kept", x.readAt(7, 0), 0);
            DUE.is("readAt(7, -1)", x.readAt(7, -1), LOST);
            Edges.writeAndCommit(x, n, 7);
            x.step(2);
        }
        DUE.is("version(7, 3)", x.version(7, 3), 5);
        int[] lost = {4, 3, 0, -1, Integer.MIN_VALUE};
        for (int r : lost) {
            DUE.is("readAt(7, " + r + ")", x.readAt(7, r), LOST);
        }
        DUE.is("bound(1) stays above them", x.bound(1), 11);
        DUE.is("readAt(7, 5)", x.readAt(7, 5), 7);
    }
}
