/** Promises 22 to 27: hands. */
public final class HandsTest {
    private static final Due DUE = new Due("HandsTest");

    public static void main(String[] args) {
        fewest();
        place();
        risk();
        copies();
        copiesWithoutRoom();
        spare();
        quarrel();
        DUE.end();
    }

    private static void fewest() {
        ThreadBank bank = Due.told("founder;plain;");
        int[] want = {0, 1, 1, 2, 2, 3, 3, 4};
        for (int n = 0; n < 8; n++) {
            DUE.is("fewest of " + n, bank.fewest(), want[n]);
            bank.tie(n % 5 + n / 5 * 10, 1, 10);
        }
        ThreadBank old = Due.told("founder;old;tie 0 1 10;tie 1 1 10;tie 2 1 10;");
        DUE.is("three on one", old.fewest(), 1);
        old.tie(3, 1, 10);
        DUE.is("four on two", old.fewest(), 2);
        // One of 2, then those of 1: 12 are on 4 old FINGERS, but 10 are the most.
        ThreadBank small = Due.told("founder;founder;tie 0 1 10;tie 1 1 10;tie 12 1 10;");
        DUE.is("one each", small.fewest(), 3);
        for (int place : new int[] {3, 4, 2, 10, 11, 13, 14}) {
            small.tie(place, 1, 10);
        }
        DUE.is("all ten", small.fewest(), 10);
    }

    private static void place() {
        ThreadBank bank = Due.told("left;old;");
        DUE.is("first", bank.place(), 0);
        bank.tie(0, 1, 10);
        DUE.is("fewest threads", bank.place(), 10);
        bank.tie(10, 1, 10);
        DUE.is("most room left", bank.place(), 1);
        bank.tie(1, 1, 10);
        bank.tie(11, 1, 10);
        DUE.is("finger 2", bank.place(), 2);
        bank.tie(2, 1, 10);
        bank.tie(4, 1, 10);
        DUE.is("old again", bank.place(), 12);
        ThreadBank full = Due.told("founder;plain;tie 0 1 10;tie 1 1 10;tie 2 1 10;tie 3 1 10;tie 4 1 10;"
            + "tie 10 1 10;tie 10 1 10;tie 11 1 10;tie 11 1 10;");
        DUE.is("a full hand is left out", full.place(), 12);
        full.tie(12, 1, 10);
        DUE.is("10 threads, but room", full.place(), 13);
        full.cut(0);
        DUE.is("a hand with room", full.place(), 0);
        ThreadBank none = Due.told("founder;founder;tie 0 1 10;tie 1 1 10;tie 2 1 10;tie 3 1 10;tie 4 1 10;"
            + "tie 10 1 10;tie 11 1 10;tie 12 1 10;tie 13 1 10;tie 14 1 10;");
        DUE.is("no room", none.place(), Due.NONE);
    }

    private static void risk() {
        ThreadBank bank = Due.told("old;plain;plain;tie 0 1 10;tie 0 1 10;tie 1 1 11;tie 10 1 11;tie 11 1 12;");
        DUE.is("risk(0)", bank.risk(0), 1);
        DUE.is("risk(1)", bank.risk(1), 1);
        DUE.is("risk(2)", bank.risk(2), 0);
        DUE.is("risk(3)", bank.risk(3), Due.BAD);
        DUE.is("risk(-1)", bank.risk(-1), Due.BAD);
        DUE.is("another pair", Due.told("plain;plain;tie 0 1 10;tie 10 10 10;").risk(0), 1);
    }

    private static void copies() {
        ThreadBank bank = Due.told("old;plain;tie 0 1 10;tie 0 1 10;tie 1 1 11;tie 10 1 11;tie 11 1 12;");
        DUE.is("two", bank.copies(), 2);
        bank.tie(1, 1, 12);
        DUE.is("one", bank.copies(), 1);
        bank.tie(10, 1, 10);
        DUE.is("none", bank.copies(), 0);
        ThreadBank five = Due.told("old;plain;tie 0 1 10;tie 0 1 11;tie 0 1 12;tie 10 1 13;tie 10 1 14;");
        DUE.is("10 in all", five.copies(), 5);
        five.tie(11, 1, 15);
        DUE.is("12 in all", five.copies(), Due.NONE);
    }

    private static void copiesWithoutRoom() {
        ThreadBank bank = Due.told("founder;founder;tie 0 1 10;tie 1 1 11;tie 10 1 10;tie 11 1 11;tie 2 1 12;");
        DUE.is("room", bank.copies(), 1);
        bank.tie(12, 1, 12);
        bank.tie(13, 1, 12);
        bank.tie(14, 1, 12);
        bank.tie(3, 1, 13);
        DUE.is("room on its own hand alone", bank.copies(), Due.NONE);
        bank.cut(7);
        DUE.is("room for one", bank.copies(), 1);
        bank.cut(7);
        DUE.is("nothing to copy", bank.copies(), 0);
    }

    private static void spare() {
        ThreadBank bank = Due.told("plain;plain;plain;plain;tie 10 1 11;tie 20 1 11;tie 30 1 12;");
        DUE.is("spare(0)", bank.spare(0), 2);
        DUE.is("spare(1)", bank.spare(1), 3);
        bank.tie(1, 1, 12);
        DUE.is("of several the least", bank.spare(1), 3);
        bank.tie(1, 1, 13);
        DUE.is("not 0 any more", bank.spare(1), 10);
        DUE.is("spare(2)", bank.spare(2), Due.BAD);
        DUE.is("spare(-1)", bank.spare(-1), Due.BAD);
        DUE.is("without threads", Due.told("old;old;old;").spare(1), 7);
        DUE.is("without clerks", new ThreadBank().spare(1), 0);
        DUE.is("the first alone", Due.told("plain;plain;tie 10 1 11;tie 0 1 11;tie 11 1 12;").spare(1), 1);
        ThreadBank none = Due.told("plain;plain;tie 0 1 11;tie 10 1 12;");
        DUE.is("none", none.spare(0), 0);
        DUE.is("none of them", none.spare(1), 0);
    }

    private static void quarrel() {
        ThreadBank bank = Due.told("plain;plain;tie 0 1 11;tie 10 1 12;tie 11 10 21;tie 1 1 21;tie 2 1 11;");
        DUE.is("no quarrel", bank.quarrel(0), 0);
        DUE.is("no first", bank.quarrel(1), Due.NONE);
        bank.tie(12, 1, 31);
        DUE.is("three", bank.quarrel(0), 3);
        DUE.is("first", bank.quarrel(1), 5);
        bank.cut(0);
        DUE.is("two", bank.quarrel(0), 2);
        DUE.is("then", bank.quarrel(1), 24);
        DUE.is("as MUCH", Due.told("plain;plain;tie 0 1 91;tie 10 1 91;").quarrel(0), 0);
        DUE.is("quarrel(2)", bank.quarrel(2), Due.BAD);
        DUE.is("quarrel(-1)", bank.quarrel(-1), Due.BAD);
    }
}
