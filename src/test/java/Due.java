/** Compares answers with those that are due, and ends a test with exit code 1 if one was wrong. */
final class Due {
    private static final int MOST_PRINTED = 30;

    private int looked = 0;
    private int wrong = 0;
    private String promise = "";

    void promise(String about) {
        promise = about;
    }

    void is(String call, long got, long want) {
        looked++;
        if (got != want) {
            wrong++;
            if (wrong <= MOST_PRINTED) {
                System.out.println(promise + ": " + call + " answered " + got + ", due is " + want);
            }
        }
    }

    void yes(String call, boolean got) {
        is(call, got ? 1 : 0, 1);
    }

    void no(String call, boolean got) {
        is(call, got ? 1 : 0, 0);
    }

    void close() {
        System.out.println(looked + " answers looked at, " + wrong + " wrong");
        if (wrong != 0 || looked == 0) {
            System.exit(1);
        }
    }
}
