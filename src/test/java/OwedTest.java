/** Promises 16 to 21: what is owed, RINGS, CLEARING, payments. */
public final class OwedTest {
    private static final Due DUE = new Due("OwedTest");

    public static void main(String[] args) {
        owed();
        sum();
        ringNone();
        ringByGain();
        ringByFewest();
        ringByNumbers();
        ringOfFour();
        ringsOfAllKinds();
        ringsSideBySide();
        clear();
        left();
        pays();
        DUE.end();
    }

    private static void owed() {
        ThreadBank bank = Due.told("plain;plain;day 4;tie 0 1 54;tie 10 1 54;tie 1 1 35;tie 1 1 35;tie 2 10 90;");
        DUE.is("copies count not", bank.owed(1, 0), 11);
        DUE.is("due", bank.owed(1, 1), 5);
        DUE.is("the other way", bank.owed(10, 0), 9);
        bank.day(3);
        DUE.is("due on 3", bank.owed(1, 1), 0);
        bank.day(5);
        DUE.is("due on 5", bank.owed(1, 1), 11);
        DUE.is("owed(0, 0)", bank.owed(0, 0), Due.BAD);
        DUE.is("owed(2, 0)", bank.owed(2, 0), Due.BAD);
        DUE.is("owed(20, 0)", bank.owed(20, 0), Due.BAD);
        DUE.is("owed(-1, 0)", bank.owed(-1, 0), Due.BAD);
        DUE.is("owed(1, 2)", bank.owed(1, 2), Due.BAD);
        DUE.is("owed(1, -1)", bank.owed(1, -1), Due.BAD);
    }

    private static void sum() {
        ThreadBank bank = Due.told("plain;plain;plain;day 2;tie 0 1 52;tie 10 1 52;tie 1 12 33;tie 2 20 41;");
        DUE.is("sum(0)", bank.sum(0), 12);
        DUE.is("sum(1)", bank.sum(1), 9);
        DUE.is("sum(2)", bank.sum(2), 2);
        DUE.is("NET of CLERK 0 too", Due.told("plain;plain;tie 0 10 70;").sum(2), 7);
        DUE.is("sum(3)", bank.sum(3), Due.BAD);
        DUE.is("sum(-1)", bank.sum(-1), Due.BAD);
    }

    private static void ringNone() {
        ThreadBank bank = Due.told("plain;plain;plain;tie 0 1 90;tie 1 12 90;tie 2 2 90;");
        DUE.is("ring(0)", bank.ring(0), Due.NONE);
        DUE.is("ring(1)", bank.ring(1), Due.NONE);
        DUE.is("ring(10)", bank.ring(10), Due.NONE);
        DUE.is("ring(13)", bank.ring(13), Due.NONE);
        DUE.is("ring(2)", bank.ring(2), Due.BAD);
        DUE.is("ring(9)", bank.ring(9), Due.BAD);
        DUE.is("ring(-1)", bank.ring(-1), Due.BAD);
        DUE.is("clear(0)", bank.clear(0), 27);
        DUE.is("clear(1)", bank.clear(1), 0);
    }

    private static void ringIs(ThreadBank bank, int gain, int... clerks) {
        DUE.is("ring(0)", bank.ring(0), gain);
        DUE.is("ring(1)", bank.ring(1), clerks.length);
        for (int i = 0; i < clerks.length; i++) {
            DUE.is("ring(" + (10 + i) + ")", bank.ring(10 + i), clerks[i]);
        }
        DUE.is("behind the last", bank.ring(10 + clerks.length), Due.NONE);
        DUE.is("BAD before NONE", bank.ring(9), Due.BAD);
    }

    private static void ringByGain() {
        // 0 -> 1 -> 0 by 4 is 8 in all; 0 -> 1 -> 2 -> 0 by 3 is 9.
        ThreadBank bank = Due.told("plain;plain;plain;tie 0 1 90;tie 1 10 40;tie 2 12 30;tie 3 20 30;");
        ringIs(bank, 9, 0, 1, 2);
        DUE.is("clear(1)", bank.clear(1), 2);
        DUE.is("clear(0)", bank.clear(0), 2);
        DUE.is("left(1)", bank.left(1), 2);
        DUE.is("left(10)", bank.left(10), 0);
        DUE.is("left(12)", bank.left(12), 0);
        DUE.is("threads stay", bank.sum(0), 19);
    }

    private static void ringByFewest() {
        // Two by 6 and three by 4 are both 12.
        ThreadBank bank = Due.told("plain;plain;plain;tie 0 2 60;tie 1 20 60;tie 2 21 40;tie 3 10 40;");
        ringIs(bank, 12, 0, 2);
        DUE.is("clear(0)", bank.clear(0), 8);
        DUE.is("clear(1)", bank.clear(1), 1);
    }

    private static void ringByNumbers() {
        ThreadBank bank = Due.told("old;old;old;old;tie 0 23 50;tie 0 32 50;tie 0 21 50;tie 1 12 50;");
        ringIs(bank, 10, 1, 2);
        bank.tie(1, 30, 50);
        bank.tie(1, 3, 50);
        ringIs(bank, 10, 0, 3);
        // 0 -> 2 -> 1 -> 0 and 0 -> 2 -> 3 -> 0 by 7: the lesser second of equal first ones is taken.
        ThreadBank three = Due.told("old;old;old;old;tie 0 2 70;tie 0 21 70;tie 0 10 70;tie 1 23 70;tie 1 30 70;");
        ringIs(three, 21, 0, 2, 1);
    }

    private static void ringOfFour() {
        ThreadBank bank = Due.told("old;old;old;old;tie 0 3 21;tie 0 31 20;tie 0 12 20;tie 1 20 30;");
        ringIs(bank, 8, 0, 3, 1, 2);
        DUE.is("ring(14)", bank.ring(14), Due.NONE);
        DUE.is("clear(0)", bank.clear(0), 1);
        DUE.is("left(20)", bank.left(20), 1);
        ThreadBank other = Due.told("old;old;old;old;tie 0 12 21;tie 0 23 20;tie 0 31 20;tie 1 20 30;");
        ringIs(other, 6, 1, 2, 3);
    }

    private static ThreadBank withDebts(int much, int... clerks) {
        ThreadBank bank = Due.told("old;old;old;old;");
        tieRound(bank, much, clerks);
        return bank;
    }

    private static void tieRound(ThreadBank bank, int much, int... clerks) {
        for (int i = 0; i < clerks.length; i++) {
            bank.tie(bank.place(), 10 * clerks[i] + clerks[(i + 1) % clerks.length], 10 * much + i);
        }
    }

    /** Each RING that there can be, alone, tied from any of its CLERKS on. */
    private static void ringsOfAllKinds() {
        int[][] rings = {{0, 1}, {0, 2}, {0, 3}, {1, 2}, {1, 3}, {2, 3}, {0, 1, 2}, {0, 1, 3}, {0, 2, 1}, {0, 2, 3},
            {0, 3, 1}, {0, 3, 2}, {1, 2, 3}, {1, 3, 2}, {0, 1, 2, 3}, {0, 1, 3, 2}, {0, 2, 1, 3}, {0, 2, 3, 1},
            {0, 3, 1, 2}, {0, 3, 2, 1}};
        for (int[] ring : rings) {
            for (int from = 0; from < ring.length; from++) {
                int[] turned = new int[ring.length];
                for (int i = 0; i < ring.length; i++) {
                    turned[i] = ring[(i + from) % ring.length];
                }
                ThreadBank bank = withDebts(6, turned);
                ringIs(bank, 6 * ring.length, ring);
                DUE.is("all is cleared", bank.clear(0), 0);
                DUE.is("by one", bank.clear(1), 1);
            }
        }
    }

    /** The second of two RINGS is tied first, and the first one is taken all the same. */
    private static void ringsSideBySide() {
        int[][][] rings = {{{0, 1}, {2, 3}}, {{0, 2}, {1, 3}}, {{0, 3}, {1, 2}}, {{0, 1}, {0, 2}}, {{0, 2}, {0, 3}},
            {{0, 3}, {1, 3}}, {{1, 2}, {1, 3}}, {{1, 3}, {2, 3}}, {{0, 1, 2}, {0, 3, 2}}, {{0, 1, 3}, {0, 2, 3}},
            {{0, 2, 1}, {0, 3, 1}}, {{0, 3, 1}, {0, 3, 2}}, {{0, 3, 2}, {1, 3, 2}}};
        for (int[][] two : rings) {
            ThreadBank bank = withDebts(5, two[1]);
            tieRound(bank, 5, two[0]);
            DUE.is("first CLERK", bank.ring(10), two[0][0]);
            DUE.is("second CLERK", bank.ring(11), two[0][1]);
            DUE.is("how many", bank.ring(1), two[0].length);
        }
    }

    private static void clear() {
        ThreadBank bank = Due.told("plain;plain;tie 0 1 91;tie 1 10 21;tie 2 10 32;tie 10 10 21;");
        DUE.is("clear(0)", bank.clear(0), 4);
        DUE.is("clear(1)", bank.clear(1), 1);
        DUE.is("clear(2)", bank.clear(2), Due.BAD);
        DUE.is("clear(-1)", bank.clear(-1), Due.BAD);
        DUE.is("owed is as it was", bank.owed(1, 0), 9);
        DUE.is("a new one", new ThreadBank().clear(0), 0);
    }

    private static void left() {
        ThreadBank bank = Due.told("plain;plain;tie 0 1 91;tie 1 10 21;");
        DUE.is("left(1)", bank.left(1), 7);
        DUE.is("left(10)", bank.left(10), 0);
        for (int pair : new int[] {0, 11, 2, 20, -1, -10, 100}) {
            DUE.is("left(" + pair + ")", bank.left(pair), Due.BAD);
        }
    }

    private static void pays() {
        DUE.is("none", Due.told("plain;plain;").pays(), 0);
        DUE.is("evened out", Due.told("plain;plain;tie 0 1 51;tie 1 10 57;").pays(), 0);
        DUE.is("one", Due.told("plain;plain;tie 0 1 51;").pays(), 1);
        DUE.is("through a third", Due.told("plain;plain;plain;tie 0 1 50;tie 1 12 50;").pays(), 1);
        DUE.is("two", Due.told("plain;plain;plain;tie 0 1 50;tie 1 2 40;").pays(), 2);
        DUE.is("two of four", Due.told("plain;plain;plain;plain;tie 0 1 50;tie 1 23 40;").pays(), 2);
        DUE.is("crosswise", Due.told("old;old;old;old;tie 0 1 50;tie 0 21 20;tie 0 23 30;").pays(), 3);
        DUE.is("three", Due.told("old;old;old;old;tie 0 1 50;tie 0 2 20;tie 0 3 30;").pays(), 3);
        // NETS -5, 7, -7, 5: 0 pays 3 and 2 pays 1, though nobody owes so.
        DUE.is("two by mates", Due.told("old;old;old;old;tie 0 1 50;tie 0 21 20;tie 1 23 50;").pays(), 2);
    }
}
