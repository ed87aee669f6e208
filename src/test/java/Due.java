import java.util.function.IntPredicate;

/** Counts answers that are not as due; a test ends with exit code 1 if there was one. */
final class Due {
    /** A call with one number left open. */
    interface Call {
        long with(int n);
    }

    /** Numbers far beyond every bound; some are like good ones in their lowest bits. */
    private static final int[] FAR = {Integer.MIN_VALUE, Integer.MIN_VALUE + 1, Integer.MIN_VALUE + 10, -65536, -65535,
        -65526, 65536, 65537, 65546, 1 << 24, 1 << 30, Integer.MAX_VALUE - 10, Integer.MAX_VALUE - 1,
        Integer.MAX_VALUE};
    private static final int NEAR = 300;

    static final int BAD = ThreadBank.BAD;
    static final int STATE = ThreadBank.STATE;
    static final int FULL = ThreadBank.FULL;
    static final int NONE = ThreadBank.NONE;

    /** The NAMES of KINDS, and the ROOM of each FINGER by these. */
    static final String[] KINDS = {"plain", "left", "old", "founder"};
    static final int[][] ROOMS = {{2, 2, 2, 2, 2}, {2, 2, 2, 0, 2}, {3, 3, 3, 0, 3}, {1, 1, 1, 1, 1}};

    private final String name;
    private int asked;
    private int wrong;

    Due(String name) {
        this.name = name;
    }

    void is(String call, long got, long want) {
        asked++;
        if (got != want) {
            wrong++;
            System.out.println(name + ": " + call + " answered " + got + ", due is " + want);
        }
    }

    void is(String call, String got, String want) {
        asked++;
        if (!got.equals(want)) {
            wrong++;
            System.out.println(name + ": " + call + " answered " + got + ", due is " + want);
        }
    }

    /** Many answers of one kind of call, written one behind another. */
    void are(String call, long[] got, long... want) {
        is(call, java.util.Arrays.toString(got), java.util.Arrays.toString(want));
    }

    /** Every number about the bounds of a call, and some far beyond: BAD is due just where it is not taken. */
    void takes(String call, IntPredicate taken, Call asked) {
        StringBuilder wrongly = new StringBuilder();
        for (int n = -NEAR; n <= NEAR; n++) {
            noteIfWrong(wrongly, n, taken, asked);
        }
        for (int n : FAR) {
            noteIfWrong(wrongly, n, taken, asked);
        }
        is(call + " takes or refuses wrongly", wrongly.toString(), "");
    }

    private static void noteIfWrong(StringBuilder wrongly, int n, IntPredicate taken, Call asked) {
        if (taken.test(n) == (asked.with(n) == BAD)) {
            wrongly.append(n).append(' ');
        }
    }

    static IntPredicate from(int least, int most) {
        return n -> n >= least && n <= most;
    }

    /** PLACES, if there are so many CLERKS. */
    static IntPredicate placesOf(int clerks) {
        return n -> n >= 0 && n / 10 < clerks && n % 10 <= 4;
    }

    /** PAIRS, if there are so many CLERKS. */
    static IntPredicate pairsOf(int clerks) {
        return n -> n >= 0 && n / 10 < clerks && n % 10 < clerks && n / 10 != n % 10;
    }

    void end() {
        System.out.println(name + ": " + asked + " answers, " + wrong + " not as due");
        if (wrong != 0) {
            System.exit(1);
        }
    }

    static void feedAll(ThreadBank bank, String text) {
        for (int i = 0; i < text.length(); i++) {
            bank.feed(text.charAt(i));
        }
    }

    static int tell(ThreadBank bank, String text) {
        feedAll(bank, text);
        return bank.text();
    }

    static ThreadBank told(String text) {
        ThreadBank bank = new ThreadBank();
        if (tell(bank, text) < 0) {
            throw new IllegalStateException("not taken: " + text);
        }
        return bank;
    }

    /** All that can be asked without a change, so that two states can be compared. */
    static String all(ThreadBank bank) {
        return held(bank) + ' ' + bank.fault();
    }

    /** As all(), but for the FAULT of the latest text, which a refused text changes. */
    static String held(ThreadBank bank) {
        StringBuilder told = new StringBuilder();
        for (int what = 0; what < 5; what++) {
            told.append(bank.rule(what)).append(' ');
        }
        for (int c = 0; c < 4; c++) {
            for (int what = 0; what < 4; what++) {
                told.append(bank.clerk(c, what)).append(' ');
            }
        }
        for (int t = 0; t < 10; t++) {
            for (int what = 0; what < 4; what++) {
                told.append(bank.thread(t, what)).append(' ');
            }
        }
        for (int what = 0; what < 6; what++) {
            told.append(bank.count(what)).append(' ');
        }
        for (int what = 0; what < 5; what++) {
            told.append(bank.fits(what)).append(' ');
        }
        return told.append(bank.torn()).toString();
    }

    /** As held(), by calls that use the bank up: IMAGES, THE TAPE's bytes and the CELLS too. */
    static String heldWithin(ThreadBank bank) {
        StringBuilder told = new StringBuilder(held(bank));
        for (int k = 0; k < 2; k++) {
            told.append(" | image ").append(bank.back(k)).append(' ').append(held(bank));
        }
        told.append(" | tape ").append(bank.text()).append(' ').append(all(bank)).append(" | sheets");
        tell(bank, "old;old;");
        for (int k = 0; k < 4; k++) {
            tellCells(told, bank, k);
        }
        return told.toString();
    }

    private static void tellCells(StringBuilder told, ThreadBank bank, int k) {
        for (int lane = 0; lane < 3; lane++) {
            for (int f = 0; f < 40; f += 3) {
                told.append(' ').append(bank.read(k, lane, f, 1)).append('/').append(bank.torn());
                told.append('/').append(bank.thread(0, 0)).append('/').append(bank.thread(0, 1));
                told.append('/').append(bank.thread(0, 2));
                bank.cut(0);
            }
        }
        for (int i = 0; i <= 40; i++) {
            told.append(bank.lay(k, i, 0) == 1 ? '+' : '-');
        }
    }
}
