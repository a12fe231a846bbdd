/** Objects in which much is going on, to show what a call does not change. */
final class Scenes {
    private Scenes() {}

    /** 0 active, 1 preparing, 2 waiting, 3 committed with a lock left, 4 aborted; messages under way. */
    static WaitedCommits busy() {
        WaitedCommits x = new WaitedCommits(6);
        x.clock(0, 2, 3);
        x.delay(1, 9);
        // 3 is committed at 20, its COMMIT arrives at 30: until then it holds key 7.
        Edges.writeAndCommit(x, 3, 6, 7);
        x.step(20);
        x.readAt(2, 23);
        x.clock(2, 4, 1);
        x.delay(2, 3);
        x.begin(4);
        x.begin(0);
        x.write(0, 0, 10);
        x.read(0, 4);
        x.read(0, 8);
        x.begin(1);
        x.read(1, 8);
        x.write(1, 1, 11);
        x.write(1, 5, 15);
        x.commit(1);
        x.begin(2);
        x.read(2, 3);
        x.write(2, 3, 23);
        x.commit(2);
        x.write(4, 2, 42);
        x.abort(4);
        return x;
    }

    /** The same, with a site that is down. */
    static WaitedCommits busyWithout(int p) {
        WaitedCommits x = busy();
        x.power(p, false);
        return x;
    }

    /** Five active ones, begun in the order 2, 0, 4, 1, 3, which share and hold keys at all sites. */
    static WaitedCommits crowded() {
        WaitedCommits x = Edges.begun(3, 2, 0, 4, 1, 3);
        x.step(2);
        for (int t = 0; t < 5; t++) {
            x.read(t, 6);
            x.write(t, t, 50 + t);
        }
        x.read(4, 7);
        x.read(1, 7);
        x.read(3, 8);
        x.read(0, 5);
        return x;
    }
}
