/** The edges that promises 16 to 21 name: what is owed, RINGS, CLEARING, payments. */
public final class OwedEdgesTest {
    private static final Due DUE = new Due("OwedEdgesTest");

    public static void main(String[] args) {
        owedBounds();
        owedNothingAndMost();
        owedWithoutCopies();
        dueOnEachDay();
        sumBounds();
        sumNothingAndMost();
        sumOfNetsAboveNothing();
        ringBounds();
        ringNone();
        ringOfEachSize();
        ringNotSoMany();
        ringWithoutCopies();
        ringHasNoDay();
        ringOfMost();
        clearBounds();
        clearWithoutRings();
        clearOfSeveralRings();
        clearChangesNoThread();
        leftBounds();
        leftNothingAndAll();
        paysNone();
        paysOneToThree();
        paysByNetsAlone();
        DUE.end();
    }

    private static String clerks(int n) {
        return "old;".repeat(n);
    }

    private static ThreadBank of(int clerks, int... pairsAndKnots) {
        ThreadBank bank = Due.told(clerks(clerks));
        for (int i = 0; i < pairsAndKnots.length; i += 2) {
            // All on one hand: none is a COPY.
            bank.tie(new int[] {0, 1, 2, 4}[i / 6], pairsAndKnots[i], pairsAndKnots[i + 1]);
        }
        return bank;
    }

    // ---- 16: owed

    private static void owedBounds() {
        for (int there = 0; there <= 4; there++) {
            String text = clerks(there);
            for (int what = 0; what < 2; what++) {
                int asked = what;
                DUE.takes("owed(pair, " + what + ") of " + there, Due.pairsOf(there),
                    n -> Due.told(text).owed(n, asked));
            }
        }
        DUE.takes("owed(1, what)", Due.from(0, 1), n -> Due.told(clerks(2)).owed(1, n));
    }

    private static void owedNothingAndMost() {
        ThreadBank bank = of(2);
        DUE.is("nothing", bank.owed(1, 0), 0);
        DUE.is("nothing is DUE", bank.owed(1, 1), 0);
        for (int t = 0; t < 10; t++) {
            bank.tie(new int[] {0, 1, 2, 4}[t / 3], 1, 99);
        }
        DUE.is("most", bank.owed(1, 0), 90);
        DUE.is("the other way", bank.owed(10, 0), 0);
        DUE.is("none is DUE", bank.owed(1, 1), 0);
        bank.day(9);
        DUE.is("all is DUE", bank.owed(1, 1), 90);
    }

    private static void owedWithoutCopies() {
        ThreadBank bank = Due.told(clerks(4) + "tie 0 1 30;tie 10 1 30;tie 20 1 30;tie 30 1 30;");
        DUE.is("three COPIES", bank.owed(1, 0), 3);
        DUE.is("three COPIES, DUE", bank.owed(1, 1), 3);
        bank.tie(1, 1, 30);
        DUE.is("one more on the first hand is a COPY of the others", bank.owed(1, 0), 3);
        ThreadBank same = Due.told(clerks(2) + "tie 0 1 30;tie 0 1 30;tie 4 1 30;");
        DUE.is("alike on one hand", same.owed(1, 0), 9);
    }

    private static void dueOnEachDay() {
        for (int of = 0; of <= 9; of++) {
            for (int now = 0; now <= 9; now++) {
                ThreadBank bank = of(2, 1, 70 + of);
                bank.day(now);
                DUE.is("DUE of " + of + " on " + now, bank.owed(1, 1), of <= now ? 7 : 0);
                DUE.is("OWED of " + of + " on " + now, bank.owed(1, 0), 7);
                DUE.is("all DUE of " + of + " on " + now, bank.sum(1), of <= now ? 7 : 0);
            }
        }
    }

    // ---- 17: sum

    private static void sumBounds() {
        DUE.takes("sum(what)", Due.from(0, 2), n -> new ThreadBank().sum(n));
        DUE.takes("sum(what) of some", Due.from(0, 2), n -> of(2, 1, 10).sum(n));
    }

    private static void sumNothingAndMost() {
        for (int what = 0; what <= 2; what++) {
            DUE.is("of nothing", new ThreadBank().sum(what), 0);
            DUE.is("of no THREADS", of(4).sum(what), 0);
        }
        ThreadBank bank = of(4, 1, 99, 12, 99, 23, 99, 30, 99, 10, 99, 21, 99, 32, 99, 3, 99, 2, 99, 13, 99);
        DUE.is("most", bank.sum(0), 90);
        DUE.is("none is DUE", bank.sum(1), 0);
        bank.day(9);
        DUE.is("all is DUE", bank.sum(1), 90);
    }

    private static void sumOfNetsAboveNothing() {
        DUE.is("all are 0", of(2, 1, 50, 10, 50).sum(2), 0);
        DUE.is("one above", of(3, 1, 50, 21, 30).sum(2), 8);
        DUE.is("two above", of(3, 1, 50, 2, 30).sum(2), 8);
        DUE.is("one between at 0", of(3, 1, 50, 12, 50).sum(2), 5);
    }

    // ---- 18: ring

    private static void ringBounds() {
        DUE.takes("ring(what)", n -> n == 0 || n == 1 || n >= 10, n -> of(2, 1, 10, 10, 10).ring(n));
        DUE.takes("ring(what) where there is none", n -> n == 0 || n == 1 || n >= 10, n -> new ThreadBank().ring(n));
    }

    private static void noRing(String what, ThreadBank bank) {
        for (int n : new int[] {0, 1, 10, 11, 12, 13}) {
            DUE.is("ring(" + n + ") of " + what, bank.ring(n), Due.NONE);
        }
    }

    private static void ringNone() {
        noRing("no CLERKS", new ThreadBank());
        noRing("no THREADS", of(4));
        noRing("one debt", of(2, 1, 99));
        noRing("debts one way", of(4, 1, 99, 12, 99, 23, 99, 2, 99, 3, 99, 13, 99));
        noRing("two debts of one PAIR", of(2, 1, 99, 1, 98));
    }

    private static void ringOfEachSize() {
        DUE.is("of 2", of(4, 1, 10, 10, 90).ring(1), 2);
        DUE.is("of 3", of(4, 1, 10, 12, 90, 20, 90).ring(1), 3);
        DUE.is("of 4", of(4, 1, 10, 12, 90, 23, 90, 30, 90).ring(1), 4);
        DUE.is("less by 2", of(4, 1, 10, 10, 90).ring(0), 2);
        DUE.is("less by 3", of(4, 1, 10, 12, 90, 20, 90).ring(0), 3);
        DUE.is("less by 4", of(4, 1, 10, 12, 90, 23, 90, 30, 90).ring(0), 4);
    }

    private static void ringNotSoMany() {
        ThreadBank two = of(4, 23, 10, 32, 90);
        DUE.are("of 2", rowOf(two), 2, 3, Due.NONE, Due.NONE, Due.NONE);
        ThreadBank three = of(4, 13, 10, 32, 90, 21, 90);
        DUE.are("of 3", rowOf(three), 1, 3, 2, Due.NONE, Due.NONE);
        ThreadBank four = of(4, 3, 10, 31, 90, 12, 90, 20, 90);
        DUE.are("of 4", rowOf(four), 0, 3, 1, 2, Due.NONE);
        DUE.is("far behind", four.ring(Integer.MAX_VALUE), Due.NONE);
        DUE.is("ahead of the first", four.ring(9), Due.BAD);
    }

    private static long[] rowOf(ThreadBank bank) {
        long[] row = new long[5];
        for (int i = 0; i < row.length; i++) {
            row[i] = bank.ring(10 + i);
        }
        return row;
    }

    private static void ringWithoutCopies() {
        ThreadBank bank = Due.told("plain;plain;tie 0 1 20;tie 10 1 20;tie 1 10 90;");
        DUE.is("a COPY adds nothing", bank.ring(0), 4);
        bank.tie(11, 1, 21);
        DUE.is("another KNOT does", bank.ring(0), 8);
    }

    private static void ringHasNoDay() {
        ThreadBank bank = of(2, 1, 29, 10, 29);
        DUE.is("what is not yet DUE too", bank.ring(0), 4);
        DUE.is("cleared too", bank.clear(0), 0);
    }

    private static void ringOfMost() {
        ThreadBank bank = of(2, 1, 91, 1, 92, 1, 93, 1, 94, 1, 95, 10, 91, 10, 92, 10, 93, 10, 94, 10, 95);
        DUE.is("all ten THREADS", bank.ring(0), 90);
        DUE.is("by one RING", bank.clear(1), 1);
        DUE.is("nothing is left", bank.clear(0), 0);
    }

    // ---- 19: clear

    private static void clearBounds() {
        DUE.takes("clear(what)", Due.from(0, 1), n -> of(2, 1, 10, 10, 10).clear(n));
        DUE.takes("clear(what) of nothing", Due.from(0, 1), n -> new ThreadBank().clear(n));
    }

    private static void clearWithoutRings() {
        DUE.is("of nothing", new ThreadBank().clear(0), 0);
        DUE.is("none of nothing", new ThreadBank().clear(1), 0);
        DUE.is("all stays", of(3, 1, 50, 12, 50, 2, 50).clear(0), 15);
        DUE.is("no RINGS", of(3, 1, 50, 12, 50, 2, 50).clear(1), 0);
    }

    private static void clearOfSeveralRings() {
        // The CLERKS stand in a row: no RING is of more than two.
        ThreadBank row = of(4, 1, 70, 10, 90, 12, 80, 21, 80, 23, 90, 32, 60);
        DUE.is("the first by its sum", row.ring(10), 1);
        DUE.is("three, one behind another", row.clear(1), 3);
        DUE.is("what is more one way", row.clear(0), 5);
        DUE.is("2 of 0 and 1", row.left(10), 2);
        DUE.is("3 of 2 and 3", row.left(23), 3);
        // 0, 1, 2 by 3 is 9 in all; behind it 0 and 1 are left 2 and 4, 2 and 0 are left nothing.
        ThreadBank chain = of(3, 1, 50, 12, 30, 20, 30, 10, 40);
        DUE.is("of three", chain.ring(0), 9);
        DUE.is("then of two", chain.clear(1), 2);
        DUE.is("what is left", chain.clear(0), 2);
        DUE.is("all of it", chain.left(10), 2);
    }

    private static void clearChangesNoThread() {
        ThreadBank bank = of(3, 1, 50, 12, 40, 20, 30, 10, 20);
        String before = Due.all(bank);
        for (int i = 0; i < 2; i++) {
            DUE.is("ring(0)", bank.ring(0), 9);
            DUE.is("clear(0)", bank.clear(0), 1);
            DUE.is("clear(1)", bank.clear(1), 2);
            DUE.is("left(12)", bank.left(12), 1);
            DUE.is("owed(12, 0)", bank.owed(12, 0), 4);
        }
        DUE.is("state", Due.all(bank), before);
    }

    // ---- 20: left

    private static void leftBounds() {
        for (int there = 0; there <= 4; there++) {
            String text = clerks(there);
            DUE.takes("left(pair) of " + there, Due.pairsOf(there), n -> Due.told(text).left(n));
        }
    }

    private static void leftNothingAndAll() {
        ThreadBank bank = of(4, 1, 90, 10, 40, 23, 70);
        DUE.is("by a RING less", bank.left(1), 5);
        DUE.is("by a RING nothing", bank.left(10), 0);
        DUE.is("in no RING", bank.left(23), 7);
        DUE.is("nothing was", bank.left(32), 0);
        for (int debtor = 0; debtor < 4; debtor++) {
            for (int creditor = 0; creditor < 4; creditor++) {
                if (debtor != creditor) {
                    int pair = 10 * debtor + creditor;
                    DUE.is("left(" + pair + ")", of(4, pair, 30).left(pair), 3);
                }
            }
        }
    }

    // ---- 21: pays

    private static void paysNone() {
        DUE.is("no CLERKS", new ThreadBank().pays(), 0);
        DUE.is("one CLERK", of(1).pays(), 0);
        DUE.is("no THREADS", of(4).pays(), 0);
        DUE.is("NETS are 0", of(4, 1, 20, 12, 20, 23, 20, 30, 20).pays(), 0);
    }

    private static void paysOneToThree() {
        DUE.is("one", of(4, 1, 20).pays(), 1);
        DUE.is("two of three", of(4, 1, 20, 2, 30).pays(), 2);
        DUE.is("two of four", of(4, 1, 20, 23, 30).pays(), 2);
        DUE.is("two of four alike", of(4, 1, 20, 23, 20).pays(), 2);
        DUE.is("three", of(4, 1, 20, 2, 30, 3, 40).pays(), 3);
        DUE.is("three to one", of(4, 10, 20, 20, 30, 30, 40).pays(), 3);
    }

    /** NETS of -x, -y, x, y, in each order of the CLERKS. */
    private static void paysByNetsAlone() {
        DUE.is("0 with 1", of(4, 1, 50, 23, 70).pays(), 2);
        DUE.is("0 with 2", of(4, 2, 50, 13, 70).pays(), 2);
        DUE.is("0 with 3", of(4, 3, 50, 12, 70).pays(), 2);
        DUE.is("none with another", of(4, 2, 50, 13, 70, 12, 10).pays(), 3);
        DUE.is("by a third one", of(4, 1, 50, 12, 30, 13, 20, 2, 10).pays(), 2);
    }
}
