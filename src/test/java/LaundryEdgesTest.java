import java.math.BigInteger;

/** The edges that promises 28 to 30 and 34 name: LAUNDRIES by odds, and by a seed. */
public final class LaundryEdgesTest {
    private static final Due DUE = new Due("LaundryEdgesTest");
    /** The odds to SLIP, in twentieths, are v times these. */
    private static final int[] TWENTIETHS = {2, 2, 1, 0};

    public static void main(String[] args) {
        keptBounds();
        keptByEachOdds();
        keptByAllAlike();
        slipsBounds();
        slipsOfNoThreads();
        slipsByEachOdds();
        noneBounds();
        noneOfNoThreads();
        noneByEachOdds();
        fractionsOfTenThreads();
        driftBounds();
        driftOfNoThreads();
        driftNeverAndAlways();
        driftBelowAndNotBelow();
        driftWrapsAround();
        driftOfFewestAndMostLaundries();
        driftOfThoseThatAreLeft();
        driftChangesNothing();
        DUE.end();
    }

    /** So many THREADS of one debt each on the hand of a CLERK 1 of that KIND. */
    private static ThreadBank of(int kind, int threads) {
        ThreadBank bank = Due.told("plain;" + Due.KINDS[kind] + ";");
        for (int t = 0; t < threads; t++) {
            int[] fingers = kind == 3 ? new int[] {0, 1, 2, 3, 4} : new int[] {0, 1, 2, 4};
            if (bank.tie(10 + fingers[t % fingers.length], 1, 10 + t) != t) {
                throw new IllegalStateException("not tied: " + t + " of " + kind);
            }
        }
        return bank;
    }

    private static void fraction(String call, long gotAbove, long gotBelow, BigInteger above, BigInteger below) {
        BigInteger shared = above.gcd(below);
        DUE.is(call + ", 0", gotAbove, above.divide(shared).longValueExact());
        DUE.is(call + ", 1", gotBelow, below.divide(shared).longValueExact());
    }

    private static BigInteger power(long base, int times) {
        return BigInteger.valueOf(base).pow(times);
    }

    // ---- 28: kept

    private static void keptBounds() {
        DUE.takes("kept(v, 0, 0)", Due.from(0, 10), n -> of(0, 2).kept(n, 0, 0));
        DUE.takes("kept(v, 0, 1)", Due.from(0, 10), n -> of(0, 2).kept(n, 0, 1));
        DUE.takes("kept(5, 0, what)", Due.from(0, 1), n -> of(0, 2).kept(5, 0, n));
        for (int there : new int[] {0, 1, 5, 10}) {
            DUE.takes("kept(5, t, 0) of " + there, Due.from(0, there - 1), n -> of(2, there).kept(5, n, 0));
        }
    }

    private static void keptByEachOdds() {
        for (int kind = 0; kind < 4; kind++) {
            for (int v = 0; v <= 10; v++) {
                ThreadBank bank = of(kind, 5);
                for (int t = 0; t < 5; t++) {
                    fraction("kept(" + v + ", " + t + ") of " + Due.KINDS[kind], bank.kept(v, t, 0), bank.kept(v, t, 1),
                        BigInteger.valueOf(20 - v * TWENTIETHS[kind]), BigInteger.valueOf(20));
                }
            }
        }
    }

    private static void keptByAllAlike() {
        for (int n = 1; n <= 10; n++) {
            ThreadBank bank = Due.told("old;old;");
            for (int t = 0; t < n; t++) {
                bank.tie(new int[] {0, 1, 2, 4}[t % 4], 1, 10);
            }
            for (int v = 0; v <= 10; v++) {
                BigInteger whole = power(20, n);
                fraction("kept(" + v + ") by " + n, bank.kept(v, 0, 0), bank.kept(v, 0, 1),
                    whole.subtract(power(v, n)), whole);
            }
        }
        ThreadBank mixed = Due.told("plain;old;founder;tie 0 1 10;tie 10 1 10;tie 1 1 11;");
        fraction("by a plain and an old one", mixed.kept(10, 0, 0), mixed.kept(10, 0, 1), BigInteger.ONE,
            BigInteger.TWO);
        fraction("another debt", mixed.kept(10, 2, 0), mixed.kept(10, 2, 1), BigInteger.ZERO, BigInteger.ONE);
        mixed.tie(20, 1, 10);
        fraction("by a founder too", mixed.kept(10, 0, 0), mixed.kept(10, 0, 1), BigInteger.ONE, BigInteger.ONE);
    }

    // ---- 29: slips

    private static void slipsBounds() {
        DUE.takes("slips(v, 0)", Due.from(0, 10), n -> of(0, 2).slips(n, 0));
        DUE.takes("slips(v, 1)", Due.from(0, 10), n -> of(0, 2).slips(n, 1));
        DUE.takes("slips(5, what)", Due.from(0, 1), n -> of(0, 2).slips(5, n));
        DUE.takes("slips(v, 0) of nothing", Due.from(0, 10), n -> new ThreadBank().slips(n, 0));
    }

    private static void slipsOfNoThreads() {
        for (int v = 0; v <= 10; v++) {
            fraction("slips(" + v + ")", new ThreadBank().slips(v, 0), new ThreadBank().slips(v, 1), BigInteger.ZERO,
                BigInteger.ONE);
        }
    }

    private static void slipsByEachOdds() {
        for (int kind = 0; kind < 4; kind++) {
            for (int threads = 1; threads <= 5; threads++) {
                ThreadBank bank = of(kind, threads);
                for (int v = 0; v <= 10; v++) {
                    fraction("slips(" + v + ") of " + threads, bank.slips(v, 0), bank.slips(v, 1),
                        BigInteger.valueOf(threads * v * TWENTIETHS[kind]), BigInteger.valueOf(20));
                }
            }
        }
    }

    // ---- 30: none

    private static void noneBounds() {
        DUE.takes("none(v, 0)", Due.from(0, 10), n -> of(0, 2).none(n, 0));
        DUE.takes("none(v, 1)", Due.from(0, 10), n -> of(0, 2).none(n, 1));
        DUE.takes("none(5, what)", Due.from(0, 1), n -> of(0, 2).none(5, n));
        DUE.takes("none(v, 0) of nothing", Due.from(0, 10), n -> new ThreadBank().none(n, 0));
    }

    private static void noneOfNoThreads() {
        for (int v = 0; v <= 10; v++) {
            fraction("none(" + v + ")", new ThreadBank().none(v, 0), new ThreadBank().none(v, 1), BigInteger.ONE,
                BigInteger.ONE);
        }
    }

    private static void noneByEachOdds() {
        for (int kind = 0; kind < 4; kind++) {
            for (int threads = 1; threads <= 5; threads++) {
                ThreadBank bank = of(kind, threads);
                for (int v = 0; v <= 10; v++) {
                    fraction("none(" + v + ") of " + threads, bank.none(v, 0), bank.none(v, 1),
                        power(20 - v * TWENTIETHS[kind], threads), power(20, threads));
                }
            }
        }
    }

    private static void fractionsOfTenThreads() {
        ThreadBank bank = of(2, 10);
        for (int v = 0; v <= 10; v++) {
            fraction("none(" + v + ") of ten", bank.none(v, 0), bank.none(v, 1), power(20 - v, 10), power(20, 10));
            fraction("slips(" + v + ") of ten", bank.slips(v, 0), bank.slips(v, 1), BigInteger.valueOf(10 * v),
                BigInteger.valueOf(20));
        }
    }

    // ---- 34: drift

    private static void driftBounds() {
        DUE.takes("drift(1, n, 5)", Due.from(1, 20), n -> of(0, 2).drift(1, n, 5));
        DUE.takes("drift(1, 1, v)", Due.from(0, 10), n -> of(0, 2).drift(1, 1, n));
        DUE.takes("drift(1, 20, v)", Due.from(0, 10), n -> of(0, 2).drift(1, 20, n));
        DUE.takes("drift(seed, 1, 5)", n -> true, n -> of(0, 2).drift(n, 1, 5));
        DUE.takes("drift(1, n, 5) of nothing", Due.from(1, 20), n -> new ThreadBank().drift(1, n, 5));
    }

    private static void driftOfNoThreads() {
        DUE.is("no CLERKS", new ThreadBank().drift(1, 20, 10), 0);
        DUE.is("no THREADS", of(0, 0).drift(1, 1, 0), 0);
    }

    private static void driftNeverAndAlways() {
        for (int seed = -50; seed <= 50; seed++) {
            DUE.is("by 0", of(0, 5).drift(seed, 20, 0), 31);
            DUE.is("by 0, old", of(2, 10).drift(seed, 20, 0), 1023);
            DUE.is("by 10", of(0, 5).drift(seed, 1, 10), 0);
            DUE.is("by 10, left", of(1, 5).drift(seed, 1, 10), 0);
            DUE.is("by 10, founder", of(3, 5).drift(seed, 20, 10), 31);
        }
    }

    private static int next(int seed) {
        return BigInteger.valueOf(seed).multiply(BigInteger.valueOf(1103515245)).add(BigInteger.valueOf(12345))
            .intValue();
    }

    private static int twentieth(int seed) {
        return BigInteger.valueOf(seed & 0xffffffffL).shiftRight(16).and(BigInteger.valueOf(32767)).intValue() % 20;
    }

    /** Each rest that there can be, against each v: the first that does not SLIP is twice v (an old one's: v). */
    private static void driftBelowAndNotBelow() {
        boolean[] met = new boolean[20];
        for (int seed = 0; seed < 200; seed++) {
            int rest = twentieth(next(seed));
            met[rest] = true;
            for (int kind = 0; kind < 4; kind++) {
                ThreadBank bank = of(kind, 1);
                for (int v = 0; v <= 10; v++) {
                    DUE.is("drift(" + seed + ", 1, " + v + ") of " + Due.KINDS[kind], bank.drift(seed, 1, v),
                        rest < v * TWENTIETHS[kind] ? 0 : 1);
                }
            }
        }
        for (int rest = 0; rest < 20; rest++) {
            DUE.is("rest " + rest + " is met", met[rest] ? 1 : 0, 1);
        }
    }

    private static int driftBy(int[] twentieths, int seed, int n, int v) {
        int left = (1 << twentieths.length) - 1;
        int s = seed;
        for (int i = 0; i < n; i++) {
            for (int t = 0; t < twentieths.length; t++) {
                if ((left >> t & 1) == 1) {
                    s = next(s);
                    left -= twentieth(s) < v * twentieths[t] ? 1 << t : 0;
                }
            }
        }
        return left;
    }

    private static void driftWrapsAround() {
        int[] seeds = {Integer.MIN_VALUE, Integer.MIN_VALUE + 1, -65536, -1, 0, 1, 65535, 1 << 30,
            Integer.MAX_VALUE - 1, Integer.MAX_VALUE};
        int[] odds = {1, 1, 1, 1, 1, 1, 1, 1, 1, 1};
        ThreadBank bank = of(2, 10);
        for (int seed : seeds) {
            for (int n : new int[] {1, 2, 19, 20}) {
                for (int v = 1; v <= 10; v++) {
                    DUE.is("drift(" + seed + ", " + n + ", " + v + ")", bank.drift(seed, n, v),
                        driftBy(odds, seed, n, v));
                }
            }
        }
    }

    private static void driftOfFewestAndMostLaundries() {
        // By 1 out of ten some of ten old THREADS are left by the 19th LAUNDRY that SLIP in the 20th.
        int[] odds = {1, 1, 1, 1, 1, 1, 1, 1, 1, 1};
        ThreadBank bank = of(2, 10);
        int unlike = 0;
        for (int seed = 0; seed < 40; seed++) {
            int before = bank.drift(seed, 19, 1);
            int behind = bank.drift(seed, 20, 1);
            unlike += before == behind ? 0 : 1;
            DUE.is("drift(" + seed + ", 20, 1)", behind, driftBy(odds, seed, 20, 1));
        }
        DUE.is("the 20th matters", unlike > 0 ? 1 : 0, 1);
    }

    /** A founder's THREAD takes its number of the seed too; one that SLIPPED takes none any more. */
    private static void driftOfThoseThatAreLeft() {
        ThreadBank bank = Due.told("founder;plain;old;tie 0 1 10;tie 10 1 10;tie 20 1 10;tie 1 1 11;tie 11 1 12;");
        int[] odds = {0, 2, 1, 0, 2};
        for (int seed = 0; seed < 60; seed++) {
            for (int n = 1; n <= 4; n++) {
                DUE.is("drift(" + seed + ", " + n + ", 4)", bank.drift(seed, n, 4), driftBy(odds, seed, n, 4));
            }
        }
    }

    private static void driftChangesNothing() {
        ThreadBank bank = of(2, 10);
        String before = Due.all(bank);
        DUE.is("by itself", bank.drift(3, 20, 9), bank.drift(3, 20, 9));
        DUE.is("state", Due.all(bank), before);
    }
}
