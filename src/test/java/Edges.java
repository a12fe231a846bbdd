/** Arguments just outside what is taken, on both sides and far off, and short ways to lead an object. */
final class Edges {
    private static final int LEAST = Integer.MIN_VALUE;
    private static final int GREATEST = Integer.MAX_VALUE;

    private Edges() {}

    // Beside the nearest wrong ones: some that are right again for whoever takes a remainder or
    // the last bits of them.
    static int[] noSites() {
        return new int[] {LEAST, LEAST + 1, -65536, -3, -2, -1, 3, 4, 256, 65536, GREATEST - 1, GREATEST};
    }

    static int[] noKeys() {
        return new int[] {LEAST, LEAST + 1, -65536, -9, -8, -1, 9, 10, 256, 65536, GREATEST - 1, GREATEST};
    }

    static int[] noTransactions() {
        return new int[] {LEAST, LEAST + 1, -65536, -5, -4, -1, 5, 6, 256, 65536, GREATEST - 1, GREATEST};
    }

    /** Ints that are not 0 .. greatest. */
    static int[] outside(int greatest) {
        return new int[] {LEAST, LEAST + 1, -65536, -2, -1, greatest + 1, greatest + 2, 65536, GREATEST - 1, GREATEST};
    }

    static WaitedCommits begun(int e, int... transactions) {
        WaitedCommits x = new WaitedCommits(e);
        for (int t : transactions) {
            x.begin(t);
        }
        return x;
    }

    static boolean writeAndCommit(WaitedCommits x, int t, int... keys) {
        boolean done = x.begin(t);
        for (int k : keys) {
            done &= x.write(t, k, 100 * t + k);
        }
        return x.commit(t) && done;
    }

    static boolean readAndCommit(WaitedCommits x, int t, int... keys) {
        boolean done = x.begin(t);
        for (int k : keys) {
            done &= x.read(t, k) != WaitedCommits.REFUSED;
        }
        return x.commit(t) && done;
    }

    /** What marks(p) answers for so many marks, of which this is the least. */
    static int marks(int count, int least) {
        return count + 8 * least;
    }
}
