/** Promises 31 to 33: what was SEEN, and which CUT ones FIT. */
public final class SeenTest {
    private static final Due DUE = new Due("SeenTest");

    public static void main(String[] args) {
        see();
        forget();
        fits();
        fitsAmongCopies();
        fitsNone();
        DUE.end();
    }

    private static void see() {
        ThreadBank bank = Due.told("plain;plain;");
        int[][] bad = {{0, 1}, {2, 1}, {20, 1}, {-1, 1}, {1, -1}, {1, 100}};
        for (int[] b : bad) {
            DUE.is("bad see", bank.see(b[0], b[1]), Due.BAD);
        }
        for (int i = 1; i <= 6; i++) {
            DUE.is("see " + i, bank.see(i % 2 == 0 ? 10 : 1, i == 1 ? 99 : 0), i);
        }
        DUE.is("the 7th", bank.see(1, 0), Due.FULL);
        DUE.is("the 7th, bad", bank.see(1, 100), Due.BAD);
        DUE.is("count(2)", bank.count(2), 6);
    }

    private static void forget() {
        ThreadBank bank = Due.told("plain;plain;tie 0 1 10;");
        bank.see(1, 0);
        bank.see(1, 1);
        DUE.is("neither", bank.fits(0), 0);
        DUE.is("forget(3)", bank.forget(3), Due.BAD);
        DUE.is("forget(-1)", bank.forget(-1), Due.BAD);
        DUE.is("forget(2)", bank.forget(2), 2);
        DUE.is("forget(1)", bank.forget(1), 2);
        DUE.is("the first is left", bank.fits(1), 1);
        DUE.is("forget(0)", bank.forget(0), 1);
        DUE.is("count(2)", bank.count(2), 0);
    }

    private static void fitsAre(ThreadBank bank, int... want) {
        for (int what = 0; what < 5; what++) {
            DUE.is("fits(" + what + ")", bank.fits(what), want[what]);
        }
    }

    private static void fits() {
        ThreadBank bank = Due.told("plain;plain;tie 0 1 20;tie 0 1 30;tie 1 1 50;tie 2 10 40;");
        fitsAre(bank, 16, 0, 0, 0, 0);
        bank.see(1, 5);
        // Cut are 0 and 1, or 2; with or without 3.
        fitsAre(bank, 4, 3, 0, 0, 1);
        bank.see(10, 4);
        fitsAre(bank, 2, 3, 0, 8, 1);
        bank.see(1, 5);
        fitsAre(bank, 2, 3, 0, 8, 1);
        bank.forget(0);
        bank.see(1, 3);
        fitsAre(bank, 2, 5, 5, 2, 2);
        bank.forget(0);
        bank.see(1, 10);
        fitsAre(bank, 2, 0, 0, 7, 0);
        DUE.is("fits(5)", bank.fits(5), Due.BAD);
        DUE.is("fits(-1)", bank.fits(-1), Due.BAD);
        DUE.is("threads stay", bank.rule(1), 4);
    }

    private static void fitsAmongCopies() {
        // Were 0 alone cut, 1 were no COPY, and as much were OWED as before.
        ThreadBank bank = Due.told("plain;plain;tie 0 1 20;tie 10 1 20;");
        bank.see(1, 2);
        fitsAre(bank, 3, 0, 0, 0, 0);
        bank.forget(0);
        bank.see(1, 0);
        fitsAre(bank, 1, 3, 3, 0, 2);
        // Two COPIES on one hand tell twice as much, if the THREAD before them is cut.
        ThreadBank twice = Due.told("plain;plain;tie 0 1 20;tie 10 1 20;tie 10 1 20;");
        twice.see(1, 4);
        fitsAre(twice, 1, 1, 1, 6, 1);
    }

    private static void fitsNone() {
        ThreadBank bank = Due.told("plain;plain;tie 0 1 20;");
        bank.see(1, 1);
        fitsAre(bank, 0, Due.NONE, Due.NONE, Due.NONE, Due.NONE);
        DUE.is("BAD before NONE", bank.fits(5), Due.BAD);
        ThreadBank empty = Due.told("plain;plain;");
        empty.see(1, 0);
        fitsAre(empty, 1, 0, 0, 0, 0);
    }
}
