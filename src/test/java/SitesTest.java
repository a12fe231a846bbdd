/** Promises 1 to 4: a new object, and the clocks, delays and power of its sites. */
public final class SitesTest {
    private static final Due DUE = new Due();

    private SitesTest() {}

    public static void main(String[] args) {
        newObject();
        errorsAreBounded();
        clockMovesLatest();
        clockMovesEarliest();
        clockRefuses();
        delayCountsWhenSent();
        delayOfBothSites();
        delayRefuses();
        power();
        downKeepsWhatLiesThere();
        DUE.close();
    }

    private static void newObject() {
        DUE.promise("1, a new object");
        WaitedCommits x = new WaitedCommits(7);
        DUE.is("now()", x.now(), 0);
        DUE.is("messages()", x.messages(), 0);
        for (int p = 0; p < 3; p++) {
            DUE.is("bound", x.bound(p), 0);
            DUE.is("safe", x.safe(p), 7);
            DUE.is("marks", x.marks(p), 0);
            DUE.no("power on", x.power(p, true));
        }
        for (int t = 0; t < 5; t++) {
            DUE.is("state", x.state(t), 0);
            DUE.is("stamp", x.stamp(t), -1);
            DUE.is("end", x.end(t), -1);
        }
        for (int k = 0; k < 9; k++) {
            DUE.is("holders", x.holders(k), 0);
            DUE.is("version 0", x.version(k, 0), 0);
            DUE.is("version 1", x.version(k, 1), -1);
            DUE.is("readAt 0", x.readAt(k, 0), 0);
        }
    }

    private static void errorsAreBounded() {
        DUE.promise("1, the bounds of E");
        int[] given = {Integer.MIN_VALUE, -1, 0, 1, 19, 20, 21, Integer.MAX_VALUE};
        int[] kept = {0, 0, 0, 1, 19, 20, 20, 20};
        for (int i = 0; i < given.length; i++) {
            WaitedCommits x = new WaitedCommits(given[i]);
            DUE.is("safe(0) with e = " + given[i], x.safe(0), kept[i]);
            DUE.no("clock above E", x.clock(0, 0, kept[i] + 1));
            DUE.no("clock above E", x.clock(0, kept[i] + 1, 0));
            DUE.yes("clock at E", x.clock(0, kept[i], kept[i]));
        }
    }

    private static void clockMovesLatest() {
        DUE.promise("2, the latest time");
        WaitedCommits x = new WaitedCommits(9);
        DUE.yes("clock(1, 9, 4)", x.clock(1, 9, 4));
        DUE.is("safe(0)", x.safe(0), 9);
        DUE.is("safe(1)", x.safe(1), 4);
        DUE.is("safe(2)", x.safe(2), 9);
        DUE.yes("the same again", x.clock(1, 9, 4));
        x.step(3);
        DUE.is("safe(1) later", x.safe(1), 7);
        DUE.yes("clock(1, 0, 0)", x.clock(1, 0, 0));
        DUE.is("safe(1) of an exact clock", x.safe(1), 3);
    }

    private static void clockMovesEarliest() {
        DUE.promise("2, the earliest time");
        for (int a = 0; a <= 5; a++) {
            WaitedCommits x = new WaitedCommits(5);
            x.clock(2, a, 1);
            x.begin(0);
            x.write(0, 2, 3);
            x.commit(0);
            DUE.is("stamp", x.stamp(0), 2);
            x.step(100);
            DUE.is("end with a = " + a, x.end(0), 3 + a);
        }
    }

    private static void clockRefuses() {
        DUE.promise("2, clock refused");
        WaitedCommits x = new WaitedCommits(6);
        DUE.no("clock(-1, 0, 0)", x.clock(-1, 0, 0));
        DUE.no("clock(3, 0, 0)", x.clock(3, 0, 0));
        DUE.no("clock(MIN, 0, 0)", x.clock(Integer.MIN_VALUE, 0, 0));
        DUE.no("clock(MAX, 0, 0)", x.clock(Integer.MAX_VALUE, 0, 0));
        DUE.no("clock(0, -1, 2)", x.clock(0, -1, 2));
        DUE.no("clock(0, 2, -1)", x.clock(0, 2, -1));
        DUE.no("clock(0, 7, 2)", x.clock(0, 7, 2));
        DUE.no("clock(0, 2, 7)", x.clock(0, 2, 7));
        DUE.is("safe(0) as before", x.safe(0), 6);
        x.begin(0);
        x.write(0, 0, 1);
        x.commit(0);
        x.step(100);
        DUE.is("end as of the first clock", x.end(0), 14);
    }

    private static void delayCountsWhenSent() {
        DUE.promise("3, the delay when it is sent");
        WaitedCommits x = new WaitedCommits(0);
        DUE.yes("delay(1, 4)", x.delay(1, 4));
        x.begin(0);
        x.write(0, 0, 1);
        x.write(0, 1, 1);
        x.commit(0);
        DUE.yes("delay(1, 0)", x.delay(1, 0));
        x.step(4);
        DUE.is("marks(1) before it arrives", x.marks(1), 0);
        x.step(1);
        DUE.is("marks(1) when it arrives", x.marks(1), 1 + 8 * 5);
        DUE.is("state(0)", x.state(0), 2);
        x.step(1);
        DUE.is("end(0) after a PREPARED without delay", x.end(0), 6);
    }

    private static void delayOfBothSites() {
        DUE.promise("3, the delays of both sites");
        for (int d = 0; d <= 9; d++) {
            WaitedCommits x = new WaitedCommits(0);
            DUE.yes("delay(1, d)", x.delay(1, d));
            DUE.yes("delay(2, 3)", x.delay(2, 3));
            DUE.yes("delay(0, 9)", x.delay(0, 9));
            x.begin(0);
            x.write(0, 1, 1);
            x.write(0, 2, 1);
            x.commit(0);
            x.step(d + 3);
            DUE.is("marks(2) before it arrives", x.marks(2), 0);
            x.step(1);
            DUE.is("marks(2) when it arrives", x.marks(2), 1 + 8 * (d + 4));
            x.step(d + 3);
            DUE.is("state(0) before PREPARED arrives", x.state(0), 2);
            x.step(1);
            DUE.is("end(0) after a PREPARED", x.end(0), 2 * d + 8);
            DUE.is("messages() of the COMMIT", x.messages(), 1);
            x.step(d + 3);
            DUE.is("holders(2) before COMMIT arrives", x.holders(2), 33);
            x.step(1);
            DUE.is("holders(2) after COMMIT", x.holders(2), 0);
        }
    }

    private static void delayRefuses() {
        DUE.promise("3, delay refused");
        WaitedCommits x = new WaitedCommits(0);
        DUE.yes("delay(1, 2)", x.delay(1, 2));
        DUE.no("delay(1, 10)", x.delay(1, 10));
        DUE.no("delay(1, -1)", x.delay(1, -1));
        DUE.no("delay(1, MAX)", x.delay(1, Integer.MAX_VALUE));
        DUE.no("delay(1, MIN)", x.delay(1, Integer.MIN_VALUE));
        DUE.no("delay(-1, 0)", x.delay(-1, 0));
        DUE.no("delay(3, 0)", x.delay(3, 0));
        x.begin(0);
        x.write(0, 0, 1);
        x.write(0, 1, 1);
        x.commit(0);
        x.step(2);
        DUE.is("marks(1)", x.marks(1), 0);
        x.step(1);
        DUE.is("marks(1)", x.marks(1), 1 + 8 * 3);
    }

    private static void power() {
        DUE.promise("4, power");
        WaitedCommits x = new WaitedCommits(2);
        for (int p = 0; p < 3; p++) {
            DUE.no("on when on", x.power(p, true));
            DUE.yes("off", x.power(p, false));
            DUE.no("off when off", x.power(p, false));
            DUE.is("safe when off", x.safe(p), -1);
            DUE.is("readAt when off", x.readAt(p, 0), WaitedCommits.REFUSED);
            DUE.yes("on", x.power(p, true));
            DUE.is("safe when on", x.safe(p), 2);
        }
        DUE.no("power(-1, false)", x.power(-1, false));
        DUE.no("power(3, false)", x.power(3, false));
        DUE.no("power(3, true)", x.power(3, true));
        DUE.no("power(MIN, true)", x.power(Integer.MIN_VALUE, true));
    }

    private static void downKeepsWhatLiesThere() {
        DUE.promise("4, what lies at a site stays");
        WaitedCommits x = new WaitedCommits(0);
        x.step(5);
        x.readAt(0, 4);
        x.begin(0);
        x.write(0, 0, 8);
        x.commit(0);
        x.begin(1);
        x.write(1, 3, 9);
        x.power(0, false);
        DUE.is("holders(0)", x.holders(0), 33);
        DUE.is("holders(3)", x.holders(3), 34);
        DUE.is("marks(0)", x.marks(0), 1 + 8 * 6);
        DUE.is("bound(0)", x.bound(0), 6);
        DUE.is("version(0, 0)", x.version(0, 0), 0);
        DUE.is("step(20) with the coordinator down", x.step(20), 0);
        DUE.is("state(0)", x.state(0), 3);
        x.power(0, true);
        DUE.is("step(1) with it up again", x.step(1), 1);
        DUE.is("end(0)", x.end(0), 26);
        DUE.is("readAt(0, 6)", x.readAt(0, 6), 8);
        DUE.is("read(1, 3)", x.read(1, 3), 9);
    }
}
