/** The sentences under TIME, SITES, KEYS, TRANSACTIONS and LOCKING, each at its edges. */
public final class TermsTest {
    private static final Due DUE = new Due();
    private static final long REFUSED = WaitedCommits.REFUSED;
    private static final long LOST = WaitedCommits.LOST;

    private TermsTest() {}

    public static void main(String[] args) {
        nowAtFirst();
        latestAtFirst();
        earliestAtFirst();
        clocksOfTheirOwn();
        earliestAndLatestMoveWithNow();
        sitesUpAtFirst();
        delaysAtFirst();
        boundsAtFirst();
        keysLieAtTheirSites();
        theFirstVersion();
        theFourNewest();
        versionsOfOneKeyOnly();
        statesOneByOne();
        theLaterIsTheYounger();
        begunAgainIsTheYounger();
        lockingAtADownSite();
        heldExclusively();
        heldShared();
        exclusiveConflictsWithEachOther();
        sharedConflictsWithExclusiveAlone();
        oneOlderAmongYounger();
        oneNotActiveAmongYounger();
        allConflictingAreAborted();
        insteadOfASharedLock();
        abortedHoldsNothing();
        abortedForgetsWhatItWrote();
        DUE.close();
    }

    private static void nowAtFirst() {
        DUE.promise("NOW is the true time, 0 at first");
        for (int e = -1; e <= 21; e++) {
            DUE.is("now()", new WaitedCommits(e).now(), 0);
        }
    }

    private static void latestAtFirst() {
        DUE.promise("at first both E: the latest time");
        for (int e = 0; e <= 20; e++) {
            for (int k = 0; k < 9; k++) {
                WaitedCommits x = new WaitedCommits(e);
                DUE.is("safe", x.safe(k % 3), e);
                DUE.is("readAt(k, E + 1)", x.readAt(k, e + 1), REFUSED);
                DUE.is("readAt(k, E)", x.readAt(k, e), 0);
            }
        }
    }

    private static void earliestAtFirst() {
        DUE.promise("at first both E: the earliest time");
        for (int e = 0; e <= 20; e++) {
            for (int p = 0; p < 3; p++) {
                WaitedCommits x = new WaitedCommits(e);
                Edges.writeAndCommit(x, 0, p);
                DUE.is("stamp(0)", x.stamp(0), e + 1);
                DUE.is("step while now - E is at most the stamp", x.step(2 * e + 1), 0);
                DUE.is("step(1)", x.step(1), 1);
                DUE.is("end(0)", x.end(0), 2 * e + 2);
            }
        }
    }

    private static void clocksOfTheirOwn() {
        DUE.promise("with a and b of its own");
        for (int p = 0; p < 3; p++) {
            WaitedCommits x = new WaitedCommits(8);
            x.clock(p, 1, 5);
            for (int q = 0; q < 3; q++) {
                DUE.is("safe(" + q + ")", x.safe(q), q == p ? 5 : 8);
                Edges.writeAndCommit(x, q, q);
                DUE.is("stamp(" + q + ")", x.stamp(q), q == p ? 6 : 9);
            }
            DUE.is("step(7)", x.step(7), 0);
            DUE.is("step(1), with now - 1 above 6", x.step(1), 1);
            DUE.is("state(" + p + ")", x.state(p), 4);
            DUE.is("step(9)", x.step(9), 0);
            DUE.is("step(1), with now - 8 above 9", x.step(1), 2);
        }
    }

    private static void earliestAndLatestMoveWithNow() {
        DUE.promise("now - a is its EARLIEST, now + b its LATEST time");
        WaitedCommits x = new WaitedCommits(4);
        x.clock(1, 2, 3);
        for (int now = 0; now < 6; now++) {
            DUE.is("safe(1)", x.safe(1), now + 3);
            DUE.is("readAt(7, now + 4)", x.readAt(7, now + 4), REFUSED);
            x.step(1);
        }
        Edges.writeAndCommit(x, 0, 1);
        DUE.is("stamp(0)", x.stamp(0), 10);
        DUE.is("step(6): now - 2 is 10", x.step(6), 0);
        DUE.is("step(1): now - 2 is 11", x.step(1), 1);
    }

    private static void sitesUpAtFirst() {
        DUE.promise("each is UP (at first)");
        for (int p = 0; p < 3; p++) {
            WaitedCommits x = new WaitedCommits(2);
            DUE.no("power(p, true)", x.power(p, true));
            DUE.is("safe", x.safe(p), 2);
            DUE.yes("power(p, false)", x.power(p, false));
        }
    }

    private static void delaysAtFirst() {
        DUE.promise("a DELAY (at first 0)");
        WaitedCommits x = new WaitedCommits(0);
        Edges.writeAndCommit(x, 0, 0, 1);
        Edges.writeAndCommit(x, 1, 4, 2);
        x.step(1);
        DUE.is("marks(1)", x.marks(1), Edges.marks(1, 1));
        DUE.is("marks(2)", x.marks(2), Edges.marks(1, 1));
        x.step(1);
        DUE.is("state(0)", x.state(0), 4);
        DUE.is("state(1)", x.state(1), 3);
    }

    private static void boundsAtFirst() {
        DUE.promise("a BOUND, an int, at first 0");
        for (int p = 0; p < 3; p++) {
            DUE.is("bound(p)", new WaitedCommits(20).bound(p), 0);
            WaitedCommits x = new WaitedCommits(0);
            Edges.writeAndCommit(x, 0, p);
            DUE.is("stamp(0)", x.stamp(0), 1);
        }
    }

    private static void keysLieAtTheirSites() {
        DUE.promise("key k lies at site k % 3");
        for (int k = 0; k < 9; k++) {
            for (int p = 0; p < 3; p++) {
                WaitedCommits x = Edges.begun(1, 0);
                x.power(p, false);
                boolean there = k % 3 == p;
                DUE.is("readAt(" + k + ", 1)", x.readAt(k, 1), there ? REFUSED : 0);
                DUE.is("bound of its site", x.bound(k % 3), there ? 0 : 1);
                DUE.is("write", x.write(0, k, 3) ? 1 : 0, there ? 0 : 1);
                DUE.is("commit", x.commit(0) ? 1 : 0, there ? 0 : 1);
                DUE.is("marks(p)", x.marks(p), 0);
                DUE.is("marks of its site", x.marks(k % 3), there ? 0 : Edges.marks(1, 2));
            }
        }
    }

    private static void theFirstVersion() {
        DUE.promise("at first one, value 0, stamp 0");
        for (int k = 0; k < 9; k++) {
            WaitedCommits x = Edges.begun(3, 0);
            DUE.is("version(k, 0)", x.version(k, 0), 0);
            DUE.is("version(k, 1)", x.version(k, 1), -1);
            DUE.is("readAt(k, 0)", x.readAt(k, 0), 0);
            DUE.is("readAt(k, 3)", x.readAt(k, 3), 0);
            DUE.is("readAt(k, -1)", x.readAt(k, -1), LOST);
            DUE.is("read(0, k)", x.read(0, k), 0);
        }
    }

    private static void theFourNewest() {
        DUE.promise("it keeps the four newest, an older one is dropped");
        WaitedCommits x = new WaitedCommits(0);
        int[] stamps = new int[8];
        for (int n = 1; n <= 7; n++) {
            x.begin(0);
            x.write(0, 4, 1000 + n);
            x.commit(0);
            stamps[n] = x.now() + 1;
            DUE.is("step(3)", x.step(3), 1);
            int oldest = Math.max(0, n - 3);
            for (int i = oldest; i <= n; i++) {
                DUE.is("version(4, " + (n - i) + ")", x.version(4, n - i), stamps[i]);
                DUE.is("readAt at its stamp", x.readAt(4, stamps[i]), i == 0 ? 0 : 1000 + i);
            }
            DUE.is("version after the last", x.version(4, n - oldest + 1), -1);
            DUE.is("readAt before the oldest", x.readAt(4, stamps[oldest] - 1), LOST);
        }
    }

    private static void versionsOfOneKeyOnly() {
        DUE.promise("a key has versions: its own");
        WaitedCommits x = new WaitedCommits(0);
        for (int n = 0; n < 5; n++) {
            Edges.writeAndCommit(x, 0, 4);
            x.step(3);
        }
        for (int k = 0; k < 9; k++) {
            DUE.is("version(" + k + ", 0)", x.version(k, 0), k == 4 ? 13 : 0);
            DUE.is("version(" + k + ", 1)", x.version(k, 1), k == 4 ? 10 : -1);
            DUE.is("readAt(" + k + ", 0)", x.readAt(k, 0), k == 4 ? LOST : 0);
        }
    }

    private static void statesOneByOne() {
        DUE.promise("0 not begun yet, ACTIVE 1, PREPARING 2, WAITING 3, COMMITTED 4, ABORTED 5");
        for (int t = 0; t < 5; t++) {
            WaitedCommits x = new WaitedCommits(1);
            DUE.is("state", x.state(t), 0);
            x.begin(t);
            DUE.is("state", x.state(t), 1);
            x.write(t, 0, 1);
            x.write(t, 1, 1);
            DUE.is("state", x.state(t), 1);
            x.commit(t);
            DUE.is("state", x.state(t), 2);
            x.step(2);
            DUE.is("state", x.state(t), 3);
            x.step(20);
            DUE.is("state", x.state(t), 4);
            x.begin(t);
            DUE.is("state", x.state(t), 1);
            x.abort(t);
            DUE.is("state", x.state(t), 5);
            for (int other = 0; other < 5; other++) {
                DUE.is("state of the others", x.state(other), other == t ? 5 : 0);
            }
        }
    }

    private static void theLaterIsTheYounger() {
        DUE.promise("the one that began later is the YOUNGER");
        for (int old = 0; old < 5; old++) {
            for (int young = 0; young < 5; young++) {
                if (old != young) {
                    WaitedCommits x = Edges.begun(0, old, young);
                    x.write(old, 3, 1);
                    x.write(young, 4, 2);
                    DUE.no("write of the younger", x.write(young, 3, 2));
                    DUE.yes("write of the older", x.write(old, 4, 1));
                    DUE.is("state of the older", x.state(old), 1);
                    DUE.is("state of the younger", x.state(young), 5);
                }
            }
        }
    }

    private static void begunAgainIsTheYounger() {
        DUE.promise("began later: the last time counts");
        WaitedCommits x = Edges.begun(0, 0, 1);
        x.read(0, 0);
        x.commit(0);
        x.step(3);
        DUE.yes("begin(0), committed before", x.begin(0));
        x.write(0, 5, 1);
        DUE.yes("write(1, 5, 2)", x.write(1, 5, 2));
        DUE.is("state(0)", x.state(0), 5);
        DUE.yes("begin(0), aborted before", x.begin(0));
        DUE.no("write(0, 5, 3)", x.write(0, 5, 3));
        DUE.is("state(1)", x.state(1), 1);
    }

    private static void lockingAtADownSite() {
        DUE.promise("LOCKING: refused when k's site is down");
        for (int k = 0; k < 9; k++) {
            WaitedCommits x = Edges.begun(0, 0);
            x.power(k % 3, false);
            DUE.is("read", x.read(0, k), REFUSED);
            DUE.no("write", x.write(0, k, 1));
            DUE.is("holders", x.holders(k), 0);
            x.power(k % 3, true);
            DUE.is("read, up again", x.read(0, k), 0);
            x.power(k % 3, false);
            DUE.no("write of a key held shared", x.write(0, k, 1));
            DUE.is("holders", x.holders(k), 1);
            x.power(k % 3, true);
            DUE.yes("write, up again", x.write(0, k, 1));
        }
    }

    private static void heldExclusively() {
        DUE.promise("If t holds k exclusively, nothing more is needed");
        WaitedCommits x = Edges.begun(0, 0, 1, 2);
        x.write(1, 2, 8);
        DUE.is("read(1, 2)", x.read(1, 2), 8);
        DUE.is("still exclusive", x.holders(2), 32 + 2);
        DUE.yes("write(1, 2, 9)", x.write(1, 2, 9));
        DUE.is("still exclusive", x.holders(2), 32 + 2);
        DUE.is("read(1, 2)", x.read(1, 2), 9);
        DUE.is("a younger reader", x.read(2, 2), REFUSED);
    }

    private static void heldShared() {
        DUE.promise("or shared and shared is asked for, nothing more is needed");
        WaitedCommits x = Edges.begun(0, 0, 1, 2);
        for (int t = 0; t < 3; t++) {
            x.read(t, 2);
        }
        x.commit(0);
        for (int t = 1; t < 3; t++) {
            DUE.is("read again", x.read(t, 2), 0);
            DUE.is("holders(2)", x.holders(2), 7);
            DUE.is("state", x.state(t), 1);
        }
        DUE.is("state(0)", x.state(0), 3);
    }

    private static void exclusiveConflictsWithEachOther() {
        DUE.promise("CONFLICTING are the others that hold k, if exclusive is asked for");
        for (int young = 1; young < 5; young++) {
            WaitedCommits x = Edges.begun(0, 0, 1, 2, 3, 4);
            x.read(young, 7);
            DUE.yes("write against a shared lock", x.write(0, 7, 1));
            DUE.is("holders(7)", x.holders(7), 32 + 1);
            DUE.is("state of the younger", x.state(young), 5);
            x = Edges.begun(0, 0, 1, 2, 3, 4);
            x.write(young, 7, 2);
            DUE.yes("write against an exclusive lock", x.write(0, 7, 1));
            DUE.is("holders(7)", x.holders(7), 32 + 1);
            DUE.is("state of the younger", x.state(young), 5);
            DUE.yes("write of a key that nobody holds", x.write(young == 4 ? 3 : 4, 1, 1));
            for (int t = 0; t < 5; t++) {
                DUE.is("state of the others", x.state(t), t == young ? 5 : 1);
            }
        }
    }

    private static void sharedConflictsWithExclusiveAlone() {
        DUE.promise("the other that holds k exclusively, if shared is");
        WaitedCommits x = Edges.begun(0, 0, 1, 2, 3, 4);
        int[] order = {4, 0, 3, 1, 2};
        int bits = 0;
        for (int t : order) {
            DUE.is("read(" + t + ", 3)", x.read(t, 3), 0);
            bits += 1 << t;
            DUE.is("holders(3)", x.holders(3), bits);
        }
        x.write(2, 4, 1);
        DUE.is("read by a younger one", x.read(3, 4), REFUSED);
        DUE.is("read by an older one", x.read(1, 4), 0);
        DUE.is("holders(4)", x.holders(4), 2);
        DUE.is("state(2)", x.state(2), 5);
        DUE.is("holders(3)", x.holders(3), 27);
    }

    private static void oneOlderAmongYounger() {
        DUE.promise("If one of these is older than t, it is refused");
        int[][] orders = {{0, 1, 2, 3, 4}, {4, 3, 2, 1, 0}, {2, 4, 0, 1, 3}};
        for (int[] order : orders) {
            for (int old = 0; old < 4; old++) {
                WaitedCommits x = Edges.begun(0, order);
                x.read(order[old], 8);
                for (int i = old + 2; i < 5; i++) {
                    x.read(order[i], 8);
                }
                int before = x.holders(8);
                DUE.no("write", x.write(order[old + 1], 8, 1));
                DUE.is("holders(8)", x.holders(8), before);
                for (int t = 0; t < 5; t++) {
                    DUE.is("state", x.state(t), 1);
                }
                x.abort(order[old]);
                DUE.yes("write without the older", x.write(order[old + 1], 8, 1));
            }
        }
    }

    private static void oneNotActiveAmongYounger() {
        DUE.promise("or not active, it is refused");
        int[] steps = {0, 2, 2};
        for (int fixed = 1; fixed < 5; fixed++) {
            WaitedCommits x = Edges.begun(1, 0, 1, 2, 3, 4);
            for (int t = 1; t < 5; t++) {
                x.read(t, 8);
            }
            x.read(fixed, 1);
            x.commit(fixed);
            for (int state = 2; state <= 4; state++) {
                x.step(steps[state - 2]);
                DUE.is("state", x.state(fixed), state);
                DUE.no("write against one in state " + state, x.write(0, 8, 1));
                DUE.is("holders(8)", x.holders(8), 30);
            }
            x.step(1);
            DUE.yes("write when it is finished", x.write(0, 8, 1));
            for (int t = 1; t < 5; t++) {
                DUE.is("state", x.state(t), t == fixed ? 4 : 5);
            }
        }
    }

    private static void allConflictingAreAborted() {
        DUE.promise("Otherwise all of them are ABORTED, and t holds the lock");
        WaitedCommits x = Edges.begun(0, 3, 0, 1, 2, 4);
        for (int t = 0; t < 5; t++) {
            x.read(t, 6);
            x.write(t, t, 1);
        }
        DUE.yes("write(3, 6, 1)", x.write(3, 6, 1));
        for (int t = 0; t < 5; t++) {
            DUE.is("state(" + t + ")", x.state(t), t == 3 ? 1 : 5);
            DUE.is("holders(" + t + ")", x.holders(t), t == 3 ? 32 + 8 : 0);
        }
        DUE.is("holders(6)", x.holders(6), 32 + 8);
    }

    private static void insteadOfASharedLock() {
        DUE.promise("(instead of a shared one, if it had that)");
        WaitedCommits x = Edges.begun(0, 0, 1);
        x.read(0, 1);
        DUE.is("holders(1)", x.holders(1), 1);
        DUE.yes("write(0, 1, 5)", x.write(0, 1, 5));
        DUE.is("holders(1)", x.holders(1), 32 + 1);
        DUE.is("a younger reader", x.read(1, 1), REFUSED);
        x.abort(0);
        DUE.is("holders(1)", x.holders(1), 0);
    }

    private static void abortedHoldsNothing() {
        DUE.promise("A transaction that is aborted holds no locks any more");
        for (int byItself = 0; byItself < 2; byItself++) {
            WaitedCommits x = Edges.begun(0, 0, 1);
            for (int k = 0; k < 9; k++) {
                x.write(1, k, 5);
                x.read(1, k);
            }
            DUE.yes("aborted", byItself == 1 ? x.abort(1) : x.write(0, 8, 2));
            for (int k = 0; k < 9; k++) {
                DUE.is("holders(" + k + ")", x.holders(k), byItself == 0 && k == 8 ? 33 : 0);
            }
        }
    }

    private static void abortedForgetsWhatItWrote() {
        DUE.promise("and what it wrote is forgotten");
        for (int byItself = 0; byItself < 2; byItself++) {
            WaitedCommits x = Edges.begun(0, 0, 1);
            for (int k = 0; k < 9; k++) {
                x.write(1, k, 5);
            }
            DUE.yes("aborted", byItself == 1 ? x.abort(1) : x.read(0, 8) == 0);
            x.abort(0);
            x.begin(1);
            for (int k = 0; k < 9; k++) {
                DUE.is("read(1, " + k + ")", x.read(1, k), 0);
                DUE.is("holders(" + k + ")", x.holders(k), 2);
            }
            x.commit(1);
            x.step(9);
            DUE.is("state(1)", x.state(1), 4);
            for (int k = 0; k < 9; k++) {
                DUE.is("version(" + k + ", 1)", x.version(k, 1), -1);
                DUE.is("readAt(" + k + ", 9)", x.readAt(k, 9), 0);
            }
        }
    }
}
