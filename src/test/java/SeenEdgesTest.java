/** The edges that promises 31 to 33 name: what was SEEN, and which CUT ones FIT. */
public final class SeenEdgesTest {
    private static final Due DUE = new Due("SeenEdgesTest");

    public static void main(String[] args) {
        seeBounds();
        seeTellsHowMany();
        seeFullBehindSix();
        forgetBounds();
        forgetKeepsTheFirst();
        fitsBounds();
        fitsWithNothingSeen();
        fitsNone();
        fitsLeastAndMost();
        fitsInAllAndInNone();
        fitsTheLeastByBitsOrTheFewest();
        fitsReckonsCopiesAnew();
        fitsAllThatWasSeen();
        DUE.end();
    }

    /** So many THREADS on two old CLERKS' hands, by 0 to 1, of 1 each and of another DAY. */
    private static ThreadBank withThreads(int n) {
        ThreadBank bank = Due.told("old;old;");
        for (int t = 0; t < n; t++) {
            bank.tie(10 * (t % 2) + t / 2 % 3, 1, 10 + t);
        }
        return bank;
    }

    private static ThreadBank withSeen(int n) {
        ThreadBank bank = Due.told("old;old;");
        for (int i = 0; i < n; i++) {
            bank.see(1, 0);
        }
        return bank;
    }

    private static void fitsAre(String what, ThreadBank bank, long... want) {
        long[] got = new long[5];
        for (int i = 0; i < 5; i++) {
            got[i] = bank.fits(i);
        }
        DUE.are("fits of " + what, got, want);
    }

    private static void fitsNoneOf(String what, ThreadBank bank) {
        fitsAre(what, bank, 0, Due.NONE, Due.NONE, Due.NONE, Due.NONE);
    }

    // ---- 31: see

    private static void seeBounds() {
        for (int there = 0; there <= 4; there++) {
            String text = "old;".repeat(there);
            DUE.takes("see(pair, 0) of " + there, Due.pairsOf(there), n -> Due.told(text).see(n, 0));
        }
        DUE.takes("see(1, much)", Due.from(0, 99), n -> Due.told("old;old;").see(1, n));
    }

    private static void seeTellsHowMany() {
        ThreadBank bank = withSeen(0);
        for (int i = 1; i <= 6; i++) {
            DUE.is("see " + i, bank.see(10, 99), i);
            DUE.is("SEEN", bank.count(2), i);
        }
    }

    private static void seeFullBehindSix() {
        ThreadBank bank = withSeen(5);
        DUE.is("the 6th", bank.see(1, 0), 6);
        String before = Due.all(bank);
        DUE.is("the 7th", bank.see(1, 9), Due.FULL);
        DUE.is("the 7th, no PAIR", bank.see(11, 9), Due.BAD);
        DUE.is("the 7th, too much", bank.see(1, 100), Due.BAD);
        DUE.is("the 7th, too little", bank.see(1, -1), Due.BAD);
        DUE.is("state", Due.all(bank), before);
        bank.forget(5);
        DUE.is("the 6th again", bank.see(1, 0), 6);
    }

    // ---- 32: forget

    private static void forgetBounds() {
        for (int there = 0; there <= 6; there++) {
            int seen = there;
            DUE.takes("forget(n) of " + there, Due.from(0, there), n -> withSeen(seen).forget(n));
        }
    }

    private static void forgetKeepsTheFirst() {
        for (int n = 0; n <= 6; n++) {
            ThreadBank bank = withThreads(10);
            for (int i = 0; i < 6; i++) {
                bank.see(1, 10 - (i < 3 ? 0 : 1));
            }
            DUE.is("forget(" + n + ")", bank.forget(n), 6);
            DUE.is("SEEN", bank.count(2), n);
            DUE.is("forget(" + n + ") again", bank.forget(n), n);
            DUE.is("fits(0)", bank.fits(0), n == 0 ? 1024 : n <= 3 ? 1 : 0);
        }
    }

    // ---- 33: fits

    private static void fitsBounds() {
        DUE.takes("fits(what)", Due.from(0, 4), n -> withThreads(2).fits(n));
        ThreadBank none = withThreads(2);
        none.see(10, 5);
        DUE.takes("fits(what) where there is none", Due.from(0, 4), none::fits);
    }

    private static void fitsWithNothingSeen() {
        fitsAre("no CLERKS", new ThreadBank(), 1, 0, 0, 0, 0);
        fitsAre("no THREADS", withThreads(0), 1, 0, 0, 0, 0);
        for (int n = 1; n <= 10; n++) {
            fitsAre(n + " THREADS", withThreads(n), 1 << n, 0, 0, 0, 0);
        }
    }

    private static void fitsNone() {
        ThreadBank more = withThreads(10);
        more.see(1, 11);
        fitsNoneOf("more than there is", more);
        ThreadBank other = withThreads(10);
        other.see(10, 1);
        fitsNoneOf("the PAIR turned", other);
        ThreadBank both = withThreads(10);
        both.see(1, 3);
        both.see(1, 4);
        fitsNoneOf("two unlike ones", both);
        ThreadBank nobody = withThreads(0);
        nobody.see(1, 1);
        fitsNoneOf("no THREADS", nobody);
        ThreadBank most = withThreads(10);
        most.see(1, 99);
        fitsNoneOf("the most that can be SEEN", most);
    }

    private static void fitsLeastAndMost() {
        ThreadBank all = withThreads(10);
        all.see(1, 0);
        fitsAre("all cut", all, 1, 1023, 1023, 0, 10);
        ThreadBank none = withThreads(10);
        none.see(1, 10);
        fitsAre("none cut", none, 1, 0, 0, 1023, 0);
        ThreadBank one = withThreads(10);
        one.see(1, 9);
        fitsAre("one cut", one, 10, 1, 0, 0, 1);
        ThreadBank nine = withThreads(10);
        nine.see(1, 1);
        fitsAre("nine cut", nine, 10, 511, 0, 0, 9);
        ThreadBank nobody = withThreads(0);
        nobody.see(1, 0);
        fitsAre("no THREADS, nothing SEEN of them", nobody, 1, 0, 0, 0, 0);
    }

    private static void fitsInAllAndInNone() {
        ThreadBank bank = Due.told("old;old;old;tie 0 1 20;tie 0 12 30;tie 0 20 40;tie 1 1 50;");
        bank.see(12, 0);
        bank.see(20, 4);
        fitsAre("1 in all, 2 in none", bank, 4, 2, 2, 4, 1);
        bank.see(1, 5);
        fitsAre("0 and 1 in all", bank, 1, 3, 3, 12, 2);
    }

    private static void fitsTheLeastByBitsOrTheFewest() {
        ThreadBank bank = Due.told("old;old;tie 0 1 20;tie 0 1 30;tie 0 1 50;");
        bank.see(1, 5);
        fitsAre("0 and 1, or 2", bank, 2, 3, 0, 0, 1);
    }

    private static void fitsReckonsCopiesAnew() {
        ThreadBank bank = Due.told("old;old;tie 0 1 20;tie 10 1 20;");
        bank.see(1, 2);
        fitsAre("one or none of two", bank, 3, 0, 0, 0, 0);
        ThreadBank both = Due.told("old;old;tie 0 1 20;tie 10 1 20;tie 10 1 20;tie 10 1 20;");
        both.see(1, 6);
        fitsAre("three COPIES without their first", both, 1, 1, 1, 14, 1);
    }

    private static void fitsAllThatWasSeen() {
        for (int n = 1; n <= 6; n++) {
            ThreadBank bank = withThreads(3);
            for (int i = 1; i < n; i++) {
                bank.see(10, 0);
            }
            DUE.is("all ahead", bank.fits(0), 8);
            bank.see(1, 9);
            fitsNoneOf("the " + n + "th alone", bank);
        }
    }
}
