/** The sentences of promises 1 to 21 about what is taken and answered, each at its edges. */
public final class PromisesTest {
    private static final Due DUE = new Due();
    private static final long REFUSED = WaitedCommits.REFUSED;
    private static final int LEAST = Integer.MIN_VALUE;
    private static final int GREATEST = Integer.MAX_VALUE;
    private static final int[] VALUES = {LEAST, LEAST + 1, -65536, -2, -1, 0, 1, 65536, GREATEST - 1, GREATEST};

    private PromisesTest() {}

    public static void main(String[] args) {
        theBoundsOfE();
        objectsOfTheirOwn();
        clockTakesZeroToE();
        clockCountsFromNowOn();
        delayTakesZeroToNine();
        powerChanges();
        powerKeepsWhatLiesThere();
        powerKeepsClockAndDelay();
        beginOfEach();
        beginAfterAborted();
        beginAfterCommittedWithoutLocks();
        beginIsTheYoungest();
        beginHasNoStampAndNoLocks();
        readOfEachKey();
        readOfItsOwnLatestValue();
        readOfTheNewestVersion();
        writeOfEachValue();
        writeOfTheSameValueIsAVersion();
        commitAlsoWithoutWrites();
        commitWithOneLock();
        abortOfAnActiveOne();
        readAtEachKey();
        readAtTheLeastAndTheGreatestTime();
        stepTakesZeroToFiveHundred();
        stepCountsCommitted();
        nowAfterTheMostSteps();
        stateOfEach();
        stampInEachState();
        endInEachState();
        marksNoneToFive();
        marksTheLeast();
        marksOfNoSite();
        safeIsTheGreatestReadyTime();
        safeOfNoSite();
        boundOfEach();
        boundOfNoSite();
        holdersFromNoneToAll();
        holdersOfNoKey();
        versionOfEachKey();
        versionOutside();
        messagesNoneToTen();
        theLastOfManyCommits();
        DUE.close();
    }

    private static void theBoundsOfE() {
        DUE.promise("1: E is e, but at least 0 and at most 20");
        int[] given = {LEAST, LEAST + 1, -65536, -2, -1, 0, 1, 2, 18, 19, 20, 21, 22, 256, 65536, GREATEST - 1, GREATEST};
        for (int e : given) {
            int kept = e < 0 ? 0 : e > 20 ? 20 : e;
            WaitedCommits x = new WaitedCommits(e);
            for (int p = 0; p < 3; p++) {
                DUE.is("safe(p) with e = " + e, x.safe(p), kept);
                DUE.no("clock(p, E + 1, 0)", x.clock(p, kept + 1, 0));
                DUE.no("clock(p, 0, E + 1)", x.clock(p, 0, kept + 1));
                DUE.yes("clock(p, E, E)", x.clock(p, kept, kept));
            }
            Edges.writeAndCommit(x, 0, 0);
            x.step(100);
            DUE.is("end(0) with e = " + e, x.end(0), 2 * kept + 2);
        }
    }

    private static void objectsOfTheirOwn() {
        DUE.promise("1: A new object, whatever others have been through");
        WaitedCommits other = Scenes.busyWithout(2);
        WaitedCommits x = new WaitedCommits(3);
        other.step(5);
        DUE.is("now()", x.now(), 0);
        DUE.is("messages()", x.messages(), 0);
        for (int t = 0; t < 5; t++) {
            DUE.is("state", x.state(t), 0);
        }
        for (int p = 0; p < 3; p++) {
            DUE.is("safe", x.safe(p), 3);
            DUE.is("marks", x.marks(p), 0);
            DUE.is("bound", x.bound(p), 0);
        }
        for (int k = 0; k < 9; k++) {
            DUE.is("holders", x.holders(k), 0);
            DUE.is("version(k, 0)", x.version(k, 0), 0);
            DUE.is("version(k, 1)", x.version(k, 1), -1);
        }
        DUE.is("now() of the other", other.now(), 25);
    }

    private static void clockTakesZeroToE() {
        DUE.promise("2: Site p's clock gets a and b: true");
        for (int e = 0; e <= 20; e += 4) {
            for (int p = 0; p < 3; p++) {
                for (int a = 0; a <= e; a++) {
                    WaitedCommits x = new WaitedCommits(e);
                    DUE.yes("clock(p, a, E - a)", x.clock(p, a, e - a));
                    DUE.is("safe(p)", x.safe(p), e - a);
                    DUE.yes("clock(p, a, E - a) again", x.clock(p, a, e - a));
                    Edges.writeAndCommit(x, 4, p);
                    DUE.is("stamp(4)", x.stamp(4), e - a + 1);
                    x.step(100);
                    DUE.is("end(4)", x.end(4), e - a + 1 + a + 1);
                }
            }
        }
    }

    private static void clockCountsFromNowOn() {
        DUE.promise("2: a clock that gets another a and b");
        WaitedCommits x = new WaitedCommits(20);
        Edges.writeAndCommit(x, 0, 0);
        DUE.is("stamp(0)", x.stamp(0), 21);
        DUE.yes("clock(0, 20, 0)", x.clock(0, 20, 0));
        DUE.is("stamp(0) stays", x.stamp(0), 21);
        DUE.is("safe(0)", x.safe(0), 0);
        x.step(30);
        DUE.yes("clock(0, 9, 20)", x.clock(0, 9, 20));
        DUE.is("step(1): the earliest time is 22", x.step(1), 1);
        DUE.is("safe(0)", x.safe(0), 51);
        DUE.yes("clock(0, 0, 0)", x.clock(0, 0, 0));
        DUE.is("safe(0)", x.safe(0), 31);
    }

    private static void delayTakesZeroToNine() {
        DUE.promise("3: Site p's delay becomes d: true");
        for (int p = 0; p < 3; p++) {
            for (int d = 0; d <= 9; d++) {
                WaitedCommits x = new WaitedCommits(0);
                DUE.yes("delay(p, 9 - d)", x.delay(p, 9 - d));
                DUE.yes("delay(p, d)", x.delay(p, d));
                DUE.yes("delay(p, d) again", x.delay(p, d));
                Edges.writeAndCommit(x, 0, 0, 1, 2);
                for (int q = 1; q < 3; q++) {
                    DUE.is("marks(q) at first", x.marks(q), 0);
                }
                x.step(d);
                for (int q = 1; q < 3; q++) {
                    boolean slow = p == 0 || p == q || d == 0;
                    DUE.is("marks(q) after d steps", x.marks(q), slow ? 0 : Edges.marks(1, 1));
                }
                x.step(1);
                for (int q = 1; q < 3; q++) {
                    boolean slow = p == 0 || p == q;
                    DUE.is("marks(q) after d + 1 steps", x.marks(q), Edges.marks(1, slow ? d + 1 : 1));
                }
            }
        }
    }

    private static void powerChanges() {
        DUE.promise("4: true when that changed something; false when it did not");
        for (int p = 0; p < 3; p++) {
            WaitedCommits x = new WaitedCommits(5);
            for (int i = 0; i < 3; i++) {
                DUE.no("up when up", x.power(p, true));
                DUE.yes("down when up", x.power(p, false));
                for (int q = 0; q < 3; q++) {
                    DUE.is("safe(q)", x.safe(q), p == q ? -1 : 5);
                }
                DUE.no("down when down", x.power(p, false));
                DUE.is("safe(p)", x.safe(p), -1);
                DUE.yes("up when down", x.power(p, true));
                DUE.is("safe(p)", x.safe(p), 5);
            }
        }
    }

    private static void powerKeepsWhatLiesThere() {
        DUE.promise("4: (what lies at it stays)");
        for (int p = 0; p < 3; p++) {
            WaitedCommits x = new WaitedCommits(1);
            Edges.writeAndCommit(x, 0, p);
            x.step(4);
            x.readAt(p, 5);
            Edges.writeAndCommit(x, 1, p + 3);
            x.begin(2);
            x.write(2, p + 6, 9);
            x.power(p, false);
            x.step(9);
            for (int again = 0; again < 2; again++) {
                DUE.is("version(k, 0)", x.version(p, 0), 2);
                DUE.is("bound(p)", x.bound(p), 6);
                DUE.is("marks(p)", x.marks(p), Edges.marks(1, 6));
                DUE.is("holders(k + 3)", x.holders(p + 3), 32 + 2);
                DUE.is("holders(k + 6)", x.holders(p + 6), 32 + 4);
                DUE.is("state(1)", x.state(1), 3);
                DUE.is("state(2)", x.state(2), 1);
                x.power(p, true);
            }
            DUE.is("read(2, k + 6)", x.read(2, p + 6), 9);
            DUE.is("readAt(k, 5)", x.readAt(p, 5), p);
            DUE.is("readAt(k, 6)", x.readAt(p, 6), REFUSED);
        }
    }

    private static void powerKeepsClockAndDelay() {
        DUE.promise("4: (what lies at it stays), and so do its clock and its delay");
        for (int p = 0; p < 2; p++) {
            WaitedCommits x = new WaitedCommits(9);
            x.clock(p, 2, 3);
            x.delay(p, 5);
            x.power(p, false);
            x.step(1);
            x.power(p, true);
            DUE.is("safe(p)", x.safe(p), 4);
            Edges.writeAndCommit(x, 0, p, 2);
            x.step(5);
            DUE.is("marks(2) before PREPARE arrives", x.marks(2), 0);
            x.step(1);
            DUE.is("marks(2)", x.marks(2), Edges.marks(1, 16));
            x.step(12);
            DUE.is("end(0): the earliest time is 17", x.end(0), 19);
        }
    }

    private static void beginOfEach() {
        DUE.promise("5: Transaction t begins: it is active: true");
        WaitedCommits x = new WaitedCommits(0);
        for (int t = 4; t >= 0; t--) {
            DUE.is("state", x.state(t), 0);
            DUE.yes("begin", x.begin(t));
            DUE.is("state", x.state(t), 1);
            DUE.no("begin again", x.begin(t));
        }
    }

    private static void beginAfterAborted() {
        DUE.promise("5: begin of an aborted one");
        for (int t = 0; t < 5; t++) {
            WaitedCommits x = Edges.begun(0, t);
            x.abort(t);
            DUE.yes("begin without ever a lock", x.begin(t));
            x.write(t, 0, 1);
            x.read(t, 1);
            x.abort(t);
            DUE.yes("begin after locks", x.begin(t));
            DUE.is("state", x.state(t), 1);
        }
    }

    private static void beginAfterCommittedWithoutLocks() {
        DUE.promise("5: or is committed and still holds a lock somewhere");
        for (int last = 1; last < 3; last++) {
            WaitedCommits x = Edges.begun(0, 4);
            x.write(4, 0, 1);
            x.read(4, 1);
            x.read(4, 2);
            x.commit(4);
            DUE.is("step(2)", x.step(2), 1);
            x.power(last, false);
            DUE.no("begin with two locks", x.begin(4));
            x.step(5);
            DUE.is("holders of the last lock", x.holders(last), 16);
            DUE.no("begin with one lock", x.begin(4));
            DUE.is("state(4)", x.state(4), 4);
            x.power(last, true);
            x.step(1);
            DUE.yes("begin without a lock", x.begin(4));
            DUE.is("state(4)", x.state(4), 1);
        }
        WaitedCommits x = new WaitedCommits(0);
        Edges.writeAndCommit(x, 4, 0);
        x.step(2);
        DUE.yes("begin, at once when there was one site", x.begin(4));
    }

    private static void beginIsTheYoungest() {
        DUE.promise("5: and the youngest");
        for (int t = 0; t < 5; t++) {
            WaitedCommits x = Edges.begun(0, 0, 1, 2, 3, 4);
            x.abort(t);
            x.begin(t);
            for (int other = 0; other < 5; other++) {
                if (other != t) {
                    x.write(t, 6, 1);
                    DUE.yes("write of an older one", x.write(other, 6, 2));
                    DUE.is("state", x.state(t), 5);
                    x.begin(t);
                    DUE.no("write of the youngest", x.write(t, 6, 3));
                    x.abort(other);
                }
            }
        }
    }

    private static void beginHasNoStampAndNoLocks() {
        DUE.promise("5: with no locks, no stamp and nothing written");
        WaitedCommits x = Edges.begun(0, 2);
        for (int k = 0; k < 9; k++) {
            x.write(2, k, 90 + k);
        }
        x.commit(2);
        x.step(9);
        DUE.is("stamp(2)", x.stamp(2), 1);
        DUE.yes("begin(2)", x.begin(2));
        DUE.is("stamp(2)", x.stamp(2), -1);
        DUE.is("end(2)", x.end(2), -1);
        for (int k = 0; k < 9; k++) {
            DUE.is("holders(" + k + ")", x.holders(k), 0);
        }
        DUE.no("commit(2) without locks", x.commit(2));
        for (int k = 0; k < 9; k++) {
            DUE.is("read(2, " + k + ")", x.read(2, k), 90 + k);
        }
        x.commit(2);
        x.step(9);
        DUE.is("stamp(2)", x.stamp(2), 10);
        for (int k = 0; k < 9; k++) {
            DUE.is("version(" + k + ", 0)", x.version(k, 0), 1);
        }
    }

    private static void readOfEachKey() {
        DUE.promise("6: Locks k shared");
        for (int t = 0; t < 5; t++) {
            WaitedCommits x = Edges.begun(0, t);
            for (int k = 0; k < 9; k++) {
                DUE.is("read(t, " + k + ")", x.read(t, k), 0);
                DUE.is("holders", x.holders(k), 1 << t);
                DUE.is("holders of the next key", x.holders(k + 1), 0);
            }
        }
    }

    private static void readOfItsOwnLatestValue() {
        DUE.promise("6: answers the value that t wrote to k latest");
        for (int k = 0; k < 9; k++) {
            WaitedCommits x = Edges.begun(0, 1);
            DUE.is("read before it wrote", x.read(1, k), 0);
            for (int v : VALUES) {
                x.write(1, k, v);
                x.write(1, (k + 1) % 9, 5);
                DUE.is("read", x.read(1, k), v);
                DUE.is("read again", x.read(1, k), v);
            }
        }
        WaitedCommits x = new WaitedCommits(0);
        Edges.writeAndCommit(x, 1, 8);
        x.step(2);
        x.begin(0);
        DUE.is("read(0, 8)", x.read(0, 8), 108);
        x.write(0, 8, 0);
        DUE.is("read(0, 8) of the 0 that it wrote", x.read(0, 8), 0);
    }

    private static void readOfTheNewestVersion() {
        DUE.promise("6: or else that of the newest version");
        WaitedCommits x = new WaitedCommits(0);
        for (int v : VALUES) {
            x.begin(0);
            x.write(0, 3, v);
            x.commit(0);
            x.step(2);
            x.begin(1);
            DUE.is("read(1, 3)", x.read(1, 3), v);
            x.abort(1);
        }
        x.begin(0);
        x.write(0, 3, 12);
        x.abort(0);
        x.begin(1);
        DUE.is("read(1, 3), not what was aborted", x.read(1, 3), GREATEST);
    }

    private static void writeOfEachValue() {
        DUE.promise("7: Locks k exclusively; t writes v to it: true");
        for (int v : VALUES) {
            for (int k = 0; k < 9; k++) {
                WaitedCommits x = Edges.begun(0, 3);
                DUE.yes("write", x.write(3, k, v));
                DUE.is("holders", x.holders(k), 32 + 8);
                DUE.is("readAt before the commit", x.readAt(k, 0), 0);
                x.commit(3);
                x.step(2);
                DUE.is("readAt(k, 1)", x.readAt(k, 1), v);
                DUE.is("readAt(k, 0)", x.readAt(k, 0), 0);
            }
        }
    }

    private static void writeOfTheSameValueIsAVersion() {
        DUE.promise("7: t writes v to it, also a value that is there");
        WaitedCommits x = Edges.begun(0, 0);
        x.write(0, 5, 0);
        x.commit(0);
        x.step(2);
        DUE.is("version(5, 0)", x.version(5, 0), 1);
        DUE.is("version(5, 1)", x.version(5, 1), 0);
    }

    private static void commitAlsoWithoutWrites() {
        DUE.promise("8: Committing of t begins (also if it wrote nothing): true");
        for (int t = 0; t < 5; t++) {
            WaitedCommits x = Edges.begun(1, t);
            x.read(t, 2);
            x.read(t, 0);
            DUE.yes("commit", x.commit(t));
            DUE.is("state", x.state(t), 2);
            DUE.is("step(3)", x.step(3), 0);
            DUE.is("stamp", x.stamp(t), 2);
            DUE.is("step(1)", x.step(1), 1);
            x.step(1);
            DUE.is("version(0, 0)", x.version(0, 0), 0);
            DUE.is("version(2, 1)", x.version(2, 1), -1);
            DUE.is("bound(0)", x.bound(0), 2);
        }
    }

    private static void commitWithOneLock() {
        DUE.promise("8: holds no lock: one is enough");
        for (int k = 0; k < 9; k++) {
            WaitedCommits x = Edges.begun(0, 0);
            DUE.no("commit without a lock", x.commit(0));
            DUE.is("state(0)", x.state(0), 1);
            x.read(0, k);
            DUE.yes("commit with one", x.commit(0));
            DUE.is("state(0)", x.state(0), 3);
        }
    }

    private static void abortOfAnActiveOne() {
        DUE.promise("9: Transaction t is aborted: true");
        for (int t = 0; t < 5; t++) {
            WaitedCommits x = Edges.begun(0, 0, 1, 2, 3, 4);
            DUE.yes("abort without locks", x.abort(t));
            DUE.no("abort again", x.abort(t));
            x.begin(t);
            x.write(t, 8, 1);
            x.read(t, 4);
            DUE.yes("abort with locks", x.abort(t));
            DUE.is("holders(8)", x.holders(8), 0);
            DUE.is("holders(4)", x.holders(4), 0);
            for (int other = 0; other < 5; other++) {
                DUE.is("state", x.state(other), other == t ? 5 : 1);
            }
        }
    }

    private static void readAtEachKey() {
        DUE.promise("10: A read at r of key k");
        WaitedCommits x = Edges.begun(0, 0);
        for (int k = 0; k < 9; k++) {
            x.write(0, k, 200 + k);
        }
        x.commit(0);
        x.step(3);
        for (int k = 0; k < 9; k++) {
            DUE.is("readAt(k, 0)", x.readAt(k, 0), 0);
            DUE.is("readAt(k, 1)", x.readAt(k, 1), 200 + k);
            DUE.is("readAt(k, 3)", x.readAt(k, 3), 200 + k);
            DUE.is("readAt(k, 4)", x.readAt(k, 4), REFUSED);
            DUE.is("holders(k)", x.holders(k), 0);
        }
    }

    private static void readAtTheLeastAndTheGreatestTime() {
        DUE.promise("10: a read at the least and the greatest int");
        WaitedCommits x = new WaitedCommits(20);
        for (int k = 0; k < 9; k++) {
            DUE.is("readAt(k, least)", x.readAt(k, LEAST), WaitedCommits.LOST);
            DUE.is("readAt(k, least + 1)", x.readAt(k, LEAST + 1), WaitedCommits.LOST);
            DUE.is("readAt(k, greatest - 1)", x.readAt(k, GREATEST - 1), REFUSED);
            DUE.is("readAt(k, greatest)", x.readAt(k, GREATEST), REFUSED);
        }
        for (int p = 0; p < 3; p++) {
            DUE.is("bound(p)", x.bound(p), 0);
        }
    }

    private static void stepTakesZeroToFiveHundred() {
        DUE.promise("11: n steps, n from 0 to 500");
        WaitedCommits x = new WaitedCommits(0);
        int[] taken = {0, 1, 0, 2, 255, 256, 499, 500, 0, 500};
        int now = 0;
        for (int n : taken) {
            DUE.is("step(" + n + ")", x.step(n), 0);
            now += n;
            DUE.is("now()", x.now(), now);
        }
        int[] refused = Edges.outside(500);
        for (int n : refused) {
            DUE.is("step(" + n + ")", x.step(n), -1);
            DUE.is("now()", x.now(), now);
        }
    }

    private static void stepCountsCommitted() {
        DUE.promise("11: how many transactions were committed in them");
        for (int five = 0; five <= 5; five++) {
            WaitedCommits x = new WaitedCommits(0);
            for (int t = 0; t < five; t++) {
                Edges.writeAndCommit(x, t, t);
            }
            DUE.is("step(0)", x.step(0), 0);
            DUE.is("step(500)", x.step(500), five);
            DUE.is("step(500)", x.step(500), 0);
        }
        WaitedCommits x = new WaitedCommits(0);
        for (int t = 0; t < 5; t++) {
            Edges.readAndCommit(x, t, 0);
        }
        int[] counts = {0, 1, 1, 1, 1, 1, 0};
        for (int due : counts) {
            DUE.is("step(1)", x.step(1), due);
        }
    }

    private static void nowAfterTheMostSteps() {
        DUE.promise("12: Now, after the most steps of 512 calls");
        WaitedCommits x = new WaitedCommits(20);
        for (int i = 0; i < 500; i++) {
            x.step(500);
        }
        DUE.is("now()", x.now(), 250000);
        DUE.yes("begin(0)", x.begin(0));
        DUE.yes("write(0, 0, 6)", x.write(0, 0, 6));
        DUE.yes("commit(0)", x.commit(0));
        DUE.is("stamp(0)", x.stamp(0), 250021);
        DUE.is("marks(0)", x.marks(0), Edges.marks(1, 250021));
        DUE.is("step(42)", x.step(42), 1);
        DUE.is("end(0)", x.end(0), 250042);
        DUE.is("version(0, 0)", x.version(0, 0), 250021);
        DUE.is("readAt(0, 250021)", x.readAt(0, 250021), 6);
        DUE.is("readAt(0, 250020)", x.readAt(0, 250020), 0);
        DUE.is("now(), the 512th call", x.now(), 250042);
    }

    private static void stateOfEach() {
        DUE.promise("13: The state of t; NONE when t is not 0 .. 4");
        WaitedCommits x = Scenes.busy();
        for (int t = 0; t < 5; t++) {
            DUE.is("state(" + t + ")", x.state(t), t + 1);
        }
        for (int t : Edges.noTransactions()) {
            DUE.is("state(" + t + ")", x.state(t), -1);
        }
    }

    private static void stampInEachState() {
        DUE.promise("14: The stamp of t, waiting or committed; NONE otherwise");
        WaitedCommits x = Scenes.busy();
        int[] due = {-1, -1, 24, 16, -1};
        for (int t = 0; t < 5; t++) {
            DUE.is("stamp(" + t + ")", x.stamp(t), due[t]);
            DUE.is("stamp of one not begun", new WaitedCommits(5).stamp(t), -1);
        }
        for (int t : Edges.noTransactions()) {
            DUE.is("stamp(" + t + ")", x.stamp(t), -1);
        }
        WaitedCommits y = new WaitedCommits(0);
        Edges.writeAndCommit(y, 0, 0);
        y.step(3);
        y.begin(0);
        DUE.is("stamp of an active one, committed before", y.stamp(0), -1);
        y.write(0, 0, 1);
        y.write(0, 1, 1);
        y.commit(0);
        DUE.is("stamp of a preparing one, committed before", y.stamp(0), -1);
        y.step(9);
        y.begin(0);
        y.abort(0);
        DUE.is("stamp of an aborted one, committed before", y.stamp(0), -1);
    }

    private static void endInEachState() {
        DUE.promise("15: What now was when t was committed; NONE when it is not committed");
        WaitedCommits x = Scenes.busy();
        int[] due = {-1, -1, -1, 20, -1};
        for (int t = 0; t < 5; t++) {
            DUE.is("end(" + t + ")", x.end(t), due[t]);
            DUE.is("end of one not begun", new WaitedCommits(5).end(t), -1);
        }
        for (int t : Edges.noTransactions()) {
            DUE.is("end(" + t + ")", x.end(t), -1);
        }
        x.step(10);
        DUE.is("end(3) when its COMMIT has arrived", x.end(3), 20);
        x.begin(3);
        DUE.is("end(3), active", x.end(3), -1);
        x.write(3, 6, 1);
        x.write(3, 4, 1);
        x.commit(3);
        DUE.is("end(3), preparing", x.end(3), -1);
        x.begin(4);
        x.write(4, 0, 1);
        x.commit(4);
        DUE.is("end(4), waiting", x.end(4), -1);
    }

    private static void marksNoneToFive() {
        DUE.promise("16: how many there are, plus 8 times the least one; 0 without any");
        for (int p = 0; p < 3; p++) {
            WaitedCommits x = new WaitedCommits(20);
            DUE.is("marks(p)", x.marks(p), 0);
            for (int t = 0; t < 5; t++) {
                Edges.readAndCommit(x, t, p);
                DUE.is("marks(p)", x.marks(p), Edges.marks(t + 1, 21));
                DUE.is("marks of the next site", x.marks((p + 1) % 3), 0);
            }
            DUE.is("step(41)", x.step(41), 0);
            for (int t = 0; t < 5; t++) {
                DUE.is("marks(p)", x.marks(p), Edges.marks(5 - t, 21 + t));
                x.step(1);
            }
            DUE.is("marks(p)", x.marks(p), 0);
        }
    }

    private static void marksTheLeast() {
        DUE.promise("16: the least one, of whomever");
        int[][] orders = {{0, 1, 2, 3, 4}, {4, 3, 2, 1, 0}, {2, 0, 4, 1, 3}};
        for (int[] order : orders) {
            WaitedCommits x = new WaitedCommits(0);
            for (int t : order) {
                Edges.readAndCommit(x, t, 0);
            }
            x.step(1);
            for (int i = 0; i < 5; i++) {
                DUE.is("marks(0)", x.marks(0), Edges.marks(5 - i, 1 + i));
                x.step(1);
                DUE.is("state", x.state(order[i]), 4);
            }
        }
    }

    private static void marksOfNoSite() {
        DUE.promise("16: 0 when p is not 0 .. 2");
        for (int p : Edges.noSites()) {
            DUE.is("marks(" + p + ")", Scenes.busy().marks(p), 0);
        }
    }

    private static void safeIsTheGreatestReadyTime() {
        DUE.promise("17: The greatest time at which a read at site p is ready now");
        for (int p = 0; p < 3; p++) {
            WaitedCommits x = new WaitedCommits(3);
            DUE.is("safe(p), a new object", x.safe(p), 3);
            Edges.writeAndCommit(x, 2, p);
            Edges.writeAndCommit(x, 1, p + 3);
            for (int now = 0; now <= 9; now++) {
                int safe = x.safe(p);
                int due = now < 8 ? 3 : now == 8 ? 4 : 12;
                DUE.is("safe(p) at " + now, safe, due);
                DUE.is("readAt(k, safe + 1)", x.readAt(p, safe + 1), REFUSED);
                DUE.is("readAt(k, safe)", x.readAt(p, safe), now < 8 ? 0 : 200 + p);
                x.step(1);
            }
        }
        WaitedCommits x = new WaitedCommits(0);
        Edges.writeAndCommit(x, 0, 0);
        DUE.is("safe(0), below the least mark there can be", x.safe(0), 0);
    }

    private static void safeOfNoSite() {
        DUE.promise("17: NONE when p is down or not 0 .. 2");
        for (int p = 0; p < 3; p++) {
            DUE.is("safe of a site down", Scenes.busyWithout(p).safe(p), -1);
            WaitedCommits x = new WaitedCommits(4);
            x.power(p, false);
            DUE.is("safe of a site down", x.safe(p), -1);
            DUE.is("safe of the next site", x.safe((p + 1) % 3), 4);
        }
        for (int p : Edges.noSites()) {
            DUE.is("safe(" + p + ")", Scenes.busy().safe(p), -1);
        }
    }

    private static void boundOfEach() {
        DUE.promise("18: The bound of site p");
        WaitedCommits x = new WaitedCommits(9);
        for (int p = 0; p < 3; p++) {
            x.readAt(p + 6, 3 + p);
            DUE.is("bound(p)", x.bound(p), 3 + p);
        }
        for (int p = 0; p < 3; p++) {
            x.power(p, false);
            DUE.is("bound(p), down", x.bound(p), 3 + p);
        }
    }

    private static void boundOfNoSite() {
        DUE.promise("18: NONE when p is not 0 .. 2");
        for (int p : Edges.noSites()) {
            DUE.is("bound(" + p + ")", Scenes.busy().bound(p), -1);
        }
    }

    private static void holdersFromNoneToAll() {
        DUE.promise("19: The transactions that hold key k, t as bit t, plus 32 when it is held exclusively");
        for (int k = 0; k < 9; k++) {
            WaitedCommits x = Edges.begun(0, 0, 1, 2, 3, 4);
            int bits = 0;
            DUE.is("holders, nobody", x.holders(k), 0);
            for (int t = 0; t < 5; t++) {
                x.write(t, k, 1);
                DUE.is("holders, one exclusively", x.holders(k), 32 + (1 << t));
                x.abort(t);
                x.begin(t);
            }
            for (int t = 4; t >= 0; t--) {
                x.read(t, k);
                bits += 1 << t;
                DUE.is("holders", x.holders(k), bits);
            }
            DUE.is("holders, all", x.holders(k), 31);
            for (int t = 0; t < 5; t++) {
                x.abort(t);
                bits -= 1 << t;
                DUE.is("holders", x.holders(k), bits);
            }
        }
    }

    private static void holdersOfNoKey() {
        DUE.promise("19: 0 when k is not 0 .. 8");
        for (int k : Edges.noKeys()) {
            DUE.is("holders(" + k + ")", Scenes.crowded().holders(k), 0);
        }
    }

    private static void versionOfEachKey() {
        DUE.promise("20: The stamp of key k's version i, counted from the newest (0)");
        for (int k = 0; k < 9; k++) {
            WaitedCommits x = new WaitedCommits(0);
            for (int n = 0; n < 6; n++) {
                for (int i = 0; i < 4; i++) {
                    int stamp = i < n ? 2 * (n - i) - 1 : i == n ? 0 : -1;
                    DUE.is("version(k, " + i + ") after " + n, x.version(k, i), stamp);
                }
                DUE.is("version(k, 4)", x.version(k, 4), -1);
                DUE.is("version(k, 5)", x.version(k, 5), -1);
                Edges.writeAndCommit(x, 0, k);
                x.step(2);
            }
        }
    }

    private static void versionOutside() {
        DUE.promise("20: NONE when k is not 0 .. 8 or there is none");
        for (int k : Edges.noKeys()) {
            DUE.is("version(" + k + ", 0)", Scenes.busy().version(k, 0), -1);
            DUE.is("version(" + k + ", " + k + ")", Scenes.busy().version(k, k), -1);
        }
        WaitedCommits x = new WaitedCommits(0);
        for (int n = 0; n < 6; n++) {
            for (int i : Edges.outside(Math.min(n, 3))) {
                DUE.is("version(8, " + i + ")", x.version(8, i), -1);
            }
            Edges.writeAndCommit(x, 0, 8);
            x.step(2);
        }
    }

    private static void messagesNoneToTen() {
        DUE.promise("21: sent and not been dealt with (those that wait for a receiver, too)");
        WaitedCommits x = new WaitedCommits(0);
        DUE.is("messages()", x.messages(), 0);
        for (int t = 0; t < 5; t++) {
            Edges.readAndCommit(x, t, 0, 1, 2);
            DUE.is("messages()", x.messages(), 2 * t + 2);
        }
        x.power(1, false);
        x.step(1);
        DUE.is("messages(): 5 PREPARE wait, 5 PREPARED", x.messages(), 10);
        x.step(1);
        DUE.is("messages(): 5 PREPARE wait", x.messages(), 5);
        x.power(1, true);
        x.power(0, false);
        DUE.is("messages() before a step", x.messages(), 5);
        x.step(3);
        DUE.is("messages(): 5 PREPARED wait", x.messages(), 5);
        x.power(0, true);
        x.power(1, false);
        x.power(2, false);
        DUE.is("step(30)", x.step(30), 5);
        DUE.is("messages(): 10 COMMIT wait", x.messages(), 10);
        x.power(2, true);
        x.step(1);
        DUE.is("messages(): 5 COMMIT wait", x.messages(), 5);
        x.power(1, true);
        x.step(1);
        DUE.is("messages()", x.messages(), 0);
    }

    private static void theLastOfManyCommits() {
        DUE.promise("An object is used for at most 512 calls");
        WaitedCommits x = new WaitedCommits(0);
        for (int i = 1; i <= 126; i++) {
            x.begin(i % 5);
            x.write(i % 5, 0, i);
            DUE.yes("commit, time " + i, x.commit(i % 5));
            DUE.is("step(2), time " + i, x.step(2), 1);
        }
        DUE.is("now()", x.now(), 252);
        for (int i = 0; i < 4; i++) {
            DUE.is("version(0, " + i + ")", x.version(0, i), 251 - 2 * i);
        }
        DUE.is("readAt(0, 251)", x.readAt(0, 251), 126);
        DUE.is("readAt(0, 245)", x.readAt(0, 245), 123);
        DUE.is("readAt(0, 244), the 512th call", x.readAt(0, 244), WaitedCommits.LOST);
    }
}
