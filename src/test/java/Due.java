/** Counts answers that are not as due; a test ends with exit code 1 if there was one. */
final class Due {
    static final int BAD = ThreadBank.BAD;
    static final int STATE = ThreadBank.STATE;
    static final int FULL = ThreadBank.FULL;
    static final int NONE = ThreadBank.NONE;

    private final String name;
    private int asked;
    private int wrong;

    Due(String name) {
        this.name = name;
    }

    void is(String call, long got, long want) {
        asked++;
        if (got != want) {
            wrong++;
            System.out.println(name + ": " + call + " answered " + got + ", due is " + want);
        }
    }

    void is(String call, String got, String want) {
        asked++;
        if (!got.equals(want)) {
            wrong++;
            System.out.println(name + ": " + call + " answered " + got + ", due is " + want);
        }
    }

    /** Many answers of one kind of call, written one behind another. */
    void are(String call, long[] got, long... want) {
        is(call, java.util.Arrays.toString(got), java.util.Arrays.toString(want));
    }

    void end() {
        System.out.println(name + ": " + asked + " answers, " + wrong + " not as due");
        if (wrong != 0) {
            System.exit(1);
        }
    }

    static void feedAll(ThreadBank bank, String text) {
        for (int i = 0; i < text.length(); i++) {
            bank.feed(text.charAt(i));
        }
    }

    static int tell(ThreadBank bank, String text) {
        feedAll(bank, text);
        return bank.text();
    }

    static ThreadBank told(String text) {
        ThreadBank bank = new ThreadBank();
        if (tell(bank, text) < 0) {
            throw new IllegalStateException("not taken: " + text);
        }
        return bank;
    }

    /** All that can be asked without a change, so that two states can be compared. */
    static String all(ThreadBank bank) {
        StringBuilder told = new StringBuilder();
        for (int what = 0; what < 5; what++) {
            told.append(bank.rule(what)).append(' ');
        }
        for (int c = 0; c < 4; c++) {
            for (int what = 0; what < 4; what++) {
                told.append(bank.clerk(c, what)).append(' ');
            }
        }
        for (int t = 0; t < 10; t++) {
            for (int what = 0; what < 4; what++) {
                told.append(bank.thread(t, what)).append(' ');
            }
        }
        for (int what = 0; what < 6; what++) {
            told.append(bank.count(what)).append(' ');
        }
        for (int what = 0; what < 5; what++) {
            told.append(bank.fits(what)).append(' ');
        }
        return told.append(bank.fault()).append(' ').append(bank.torn()).toString();
    }
}
