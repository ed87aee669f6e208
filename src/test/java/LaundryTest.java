/** Promises 28 to 30 and 34: LAUNDRIES by odds, and by a seed. */
public final class LaundryTest {
    private static final Due DUE = new Due("LaundryTest");

    public static void main(String[] args) {
        kept();
        slips();
        none();
        largest();
        drift();
        DUE.end();
    }

    private static void fraction(String call, long above, long below, long wantAbove, long wantBelow) {
        DUE.are(call, new long[] {above, below}, wantAbove, wantBelow);
    }

    private static void kept() {
        ThreadBank bank = Due.told("plain;old;founder;tie 0 1 10;tie 1 1 11;tie 10 1 11;tie 11 1 12;tie 20 1 13;"
            + "tie 2 1 13;");
        fraction("alone", bank.kept(3, 0, 0), bank.kept(3, 0, 1), 7, 10);
        fraction("two hands", bank.kept(4, 1, 0), bank.kept(4, 1, 1), 23, 25);
        fraction("its copy", bank.kept(4, 2, 0), bank.kept(4, 2, 1), 23, 25);
        fraction("old", bank.kept(3, 3, 0), bank.kept(3, 3, 1), 17, 20);
        fraction("founder", bank.kept(10, 4, 0), bank.kept(10, 4, 1), 1, 1);
        fraction("by a founder", bank.kept(10, 5, 0), bank.kept(10, 5, 1), 1, 1);
        fraction("sure to slip", bank.kept(10, 0, 0), bank.kept(10, 0, 1), 0, 1);
        fraction("sure to stay", bank.kept(0, 0, 0), bank.kept(0, 0, 1), 1, 1);
        int[][] bad = {{-1, 0, 0}, {11, 0, 0}, {5, 6, 0}, {5, -1, 0}, {5, 0, 2}, {5, 0, -1}};
        for (int[] b : bad) {
            DUE.is("bad kept", bank.kept(b[0], b[1], b[2]), Due.BAD);
        }
        DUE.is("no thread", Due.told("plain;").kept(5, 0, 0), Due.BAD);
    }

    private static void slips() {
        ThreadBank bank = Due.told("plain;old;founder;left;tie 0 1 10;tie 10 1 10;tie 20 1 11;tie 30 1 12;");
        fraction("slips(3)", bank.slips(3, 0), bank.slips(3, 1), 3, 4);
        fraction("slips(10)", bank.slips(10, 0), bank.slips(10, 1), 5, 2);
        fraction("slips(0)", bank.slips(0, 0), bank.slips(0, 1), 0, 1);
        fraction("no threads", new ThreadBank().slips(5, 0), new ThreadBank().slips(5, 1), 0, 1);
        int[][] bad = {{-1, 0}, {11, 0}, {5, 2}, {5, -1}};
        for (int[] b : bad) {
            DUE.is("bad slips", bank.slips(b[0], b[1]), Due.BAD);
        }
    }

    private static void none() {
        ThreadBank bank = Due.told("plain;old;founder;left;tie 0 1 10;tie 10 1 10;tie 20 1 11;tie 30 1 12;");
        fraction("none(5)", bank.none(5, 0), bank.none(5, 1), 3, 16);
        fraction("none(10)", bank.none(10, 0), bank.none(10, 1), 0, 1);
        fraction("none(0)", bank.none(0, 0), bank.none(0, 1), 1, 1);
        fraction("no threads", new ThreadBank().none(10, 0), new ThreadBank().none(10, 1), 1, 1);
        int[][] bad = {{-1, 0}, {11, 0}, {5, 2}, {5, -1}};
        for (int[] b : bad) {
            DUE.is("bad none", bank.none(b[0], b[1]), Due.BAD);
        }
    }

    private static void largest() {
        ThreadBank bank = Due.told("old;plain;");
        for (int i = 0; i < 10; i++) {
            bank.tie(new int[] {0, 1, 2, 4}[i / 3], 1, 10);
        }
        DUE.is("threads", bank.rule(1), 10);
        fraction("kept", bank.kept(1, 0, 0), bank.kept(1, 0, 1), 10239999999999L, 10240000000000L);
        fraction("none", bank.none(1, 0), bank.none(1, 1), 6131066257801L, 10240000000000L);
        fraction("slips", bank.slips(7, 0), bank.slips(7, 1), 7, 2);
    }

    private static int driftBySteps(int[] odds, long seed, int n) {
        long s = seed & 0xffffffffL;
        int left = (1 << odds.length) - 1;
        for (int i = 0; i < n; i++) {
            for (int t = 0; t < odds.length; t++) {
                if ((left & 1 << t) != 0) {
                    s = (s * 1103515245L + 12345L) & 0xffffffffL;
                    left = (s >> 16 & 32767) % 20 < odds[t] ? left - (1 << t) : left;
                }
            }
        }
        return left;
    }

    private static void drift() {
        ThreadBank bank = Due.told("plain;old;founder;left;tie 0 1 10;tie 10 1 10;tie 20 1 11;tie 30 1 12;"
            + "tie 31 1 13;tie 11 1 14;tie 21 1 15;");
        String before = Due.all(bank);
        int[] seeds = {0, 1, -1, 42, 2026, Integer.MAX_VALUE, Integer.MIN_VALUE, -77777};
        for (int seed : seeds) {
            for (int v = 0; v <= 10; v++) {
                int[] odds = {2 * v, v, 0, 2 * v, 2 * v, v, 0};
                for (int n : new int[] {1, 2, 3, 20}) {
                    DUE.is("drift(" + seed + ", " + n + ", " + v + ")", bank.drift(seed, n, v),
                        driftBySteps(odds, seed, n));
                }
            }
        }
        DUE.is("never", bank.drift(7, 20, 0), 127);
        DUE.is("founders stay", bank.drift(7, 20, 10) & 68, 68);
        DUE.is("plain and left go", bank.drift(7, 1, 10) & 25, 0);
        DUE.is("state", Due.all(bank), before);
        int[][] bad = {{1, 0, 5}, {1, 21, 5}, {1, 1, -1}, {1, 1, 11}, {1, -1, 5}};
        for (int[] b : bad) {
            DUE.is("bad drift", bank.drift(b[0], b[1], b[2]), Due.BAD);
        }
        DUE.is("no threads", new ThreadBank().drift(1, 1, 5), 0);
    }
}
