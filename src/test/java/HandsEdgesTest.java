/** The edges that promises 22 to 27 name: hands. */
public final class HandsEdgesTest {
    private static final Due DUE = new Due("HandsEdgesTest");

    public static void main(String[] args) {
        fewestOfNone();
        fewestOfEachKind();
        fewestOfMixedKinds();
        placeWithoutClerks();
        placeWithoutRoom();
        placeOnAFingerWithoutRoom();
        placeOfAHandWithFewest();
        placeOfTheLesserClerk();
        placeWithMostRoomLeft();
        placeWithTenThreads();
        riskBounds();
        riskNoneAndMost();
        riskOfAlikeOnes();
        copiesNone();
        copiesUpToTenThreads();
        copiesUpToTheRoom();
        copiesOnOtherHandsAlone();
        spareBounds();
        spareAllAndNone();
        spareTheLeastSet();
        quarrelBounds();
        quarrelNoneAndMost();
        quarrelOrNot();
        quarrelTheFirst();
        DUE.end();
    }

    private static ThreadBank of(String clerks, int... places) {
        ThreadBank bank = Due.told(clerks);
        for (int i = 0; i < places.length; i++) {
            if (bank.tie(places[i], 1, 10 + i) < 0) {
                throw new IllegalStateException("not tied: " + places[i]);
            }
        }
        return bank;
    }

    // ---- 22: fewest

    private static void fewestOfNone() {
        DUE.is("no CLERKS", new ThreadBank().fewest(), 0);
        DUE.is("no THREADS", Due.told("plain;old;").fewest(), 0);
    }

    /** THREADS 1 to 10 on two hands of one KIND, spread as far as may be. */
    private static void fewestOfEachKind() {
        int[] rooms = {2, 2, 3, 1};
        for (int kind = 0; kind < 4; kind++) {
            ThreadBank bank = Due.told(Due.KINDS[kind] + ";" + Due.KINDS[kind] + ";");
            for (int n = 1; n <= 10; n++) {
                bank.tie(bank.place(), 1, 10);
                DUE.is(n + " on " + Due.KINDS[kind], bank.fewest(), (n + rooms[kind] - 1) / rooms[kind]);
            }
            DUE.is("THREADS", bank.rule(1), 10);
        }
    }

    private static void fewestOfMixedKinds() {
        // One old hand has ROOM for 12 on 4 FINGERS.
        DUE.is("3 on an old FINGER", of("founder;old;", 0, 1, 2).fewest(), 1);
        DUE.is("4 on two of them", of("founder;old;", 0, 1, 2, 3).fewest(), 2);
        DUE.is("10 on four of them", of("founder;old;", 0, 1, 2, 3, 4, 10, 11, 12, 14, 10).fewest(), 4);
        // One left hand has ROOM for 8 on 4 FINGERS, the 9th and the 10th are alone.
        DUE.is("8", of("founder;left;", 0, 1, 2, 3, 4, 10, 11, 12).fewest(), 4);
        DUE.is("9", of("founder;left;", 0, 1, 2, 3, 4, 10, 11, 12, 14).fewest(), 5);
        DUE.is("10", of("founder;left;", 0, 1, 2, 3, 4, 10, 11, 12, 14, 14).fewest(), 6);
    }

    // ---- 23: place

    private static void placeWithoutClerks() {
        DUE.is("no CLERKS", new ThreadBank().place(), Due.NONE);
        for (String kind : Due.KINDS) {
            DUE.is("a first one", Due.told(kind + ";").place(), 0);
        }
    }

    private static void placeWithoutRoom() {
        ThreadBank bank = of("founder;founder;", 0, 1, 2, 3, 4, 10, 11, 12, 13);
        DUE.is("the last ROOM", bank.place(), 14);
        bank.tie(14, 1, 50);
        DUE.is("no ROOM", bank.place(), Due.NONE);
        bank.cut(2);
        DUE.is("ROOM again", bank.place(), 2);
    }

    private static void placeOnAFingerWithoutRoom() {
        ThreadBank bank = of("left;founder;", 0, 0, 1, 1, 2, 2, 10, 11, 12);
        bank.tie(4, 1, 50);
        DUE.is("the other hand has fewer", bank.place(), 13);
        ThreadBank left = Due.told("founder;left;tie 0 1 10;tie 1 1 10;tie 2 1 10;tie 3 1 10;tie 4 1 10;tie 10 1 10;"
            + "tie 11 1 10;tie 12 1 10;");
        DUE.is("FINGER 4 in place of 3", left.place(), 14);
        left.tie(14, 1, 10);
        DUE.is("then 0", left.place(), 10);
    }

    private static void placeOfAHandWithFewest() {
        DUE.is("none before one", of("plain;plain;", 0).place(), 10);
        DUE.is("one before two", of("plain;old;plain;", 0, 1, 20, 10, 11).place(), 21);
        DUE.is("a full hand is passed over", of("old;founder;", 0, 0, 0, 1, 1, 10, 11, 12, 13, 14).place(), 2);
    }

    private static void placeOfTheLesserClerk() {
        DUE.is("of four", Due.told("old;old;old;old;").place(), 0);
        DUE.is("of three", of("old;old;old;old;", 0).place(), 10);
        DUE.is("of two", of("old;old;old;old;", 0, 10).place(), 20);
        DUE.is("the last", of("old;old;old;old;", 0, 10, 20).place(), 30);
        DUE.is("the first again", of("old;old;old;old;", 0, 10, 20, 30).place(), 1);
        DUE.is("not by ROOM", Due.told("founder;old;").place(), 0);
    }

    private static void placeWithMostRoomLeft() {
        DUE.is("FINGER 1", of("plain;founder;", 0, 10).place(), 1);
        DUE.is("FINGER 4", of("plain;plain;", 0, 1, 2, 3, 10, 10, 11, 11).place(), 4);
        DUE.is("all alike, FINGER 0", of("plain;plain;", 0, 1, 2, 3, 4, 10, 10, 11, 11, 12).place(), 0);
        DUE.is("3 left before 2", of("old;plain;", 0, 1, 1, 2, 10, 11, 12, 13).place(), 4);
        DUE.is("FINGER 2 behind 0 and 1", of("old;plain;", 0, 0, 0, 1, 2, 2, 4, 10, 11).place(), 12);
    }

    private static void placeWithTenThreads() {
        ThreadBank bank = of("old;old;", 0, 0, 0, 1, 1, 1, 2, 2, 2, 4);
        DUE.is("by ROOM alone", bank.place(), 10);
        DUE.is("though none can be tied", bank.tie(10, 1, 10), Due.FULL);
    }

    // ---- 24: risk

    private static void riskBounds() {
        for (int there = 0; there <= 4; there++) {
            String text = "old;".repeat(there);
            DUE.takes("risk(c) of " + there, Due.from(0, there - 1), n -> Due.told(text).risk(n));
        }
    }

    private static void riskNoneAndMost() {
        ThreadBank bank = Due.told("old;old;");
        DUE.is("no THREADS", bank.risk(0), 0);
        ThreadBank ten = of("old;old;", 0, 0, 0, 1, 1, 1, 2, 2, 2, 4);
        DUE.is("ten debts", ten.risk(0), 10);
        DUE.is("none on the other hand", ten.risk(1), 0);
        DUE.is("nothing is LOST by it", ten.rule(1), 10);
    }

    private static void riskOfAlikeOnes() {
        ThreadBank bank = Due.told("old;plain;plain;tie 0 1 10;tie 0 1 10;tie 4 1 10;");
        DUE.is("as one", bank.risk(0), 1);
        bank.tie(10, 1, 10);
        DUE.is("on another hand too", bank.risk(0), 0);
        DUE.is("from there too", bank.risk(1), 0);
        bank.tie(11, 1, 11);
        DUE.is("another DAY", bank.risk(1), 1);
        bank.tie(12, 10, 10);
        DUE.is("another PAIR", bank.risk(1), 2);
        bank.tie(13, 1, 20);
        DUE.is("another MUCH", bank.risk(1), 3);
    }

    // ---- 25: copies

    private static void copiesNone() {
        DUE.is("no CLERKS", new ThreadBank().copies(), 0);
        DUE.is("no THREADS", Due.told("plain;plain;").copies(), 0);
        DUE.is("all on two hands", Due.told("plain;plain;tie 0 1 10;tie 10 1 10;").copies(), 0);
        DUE.is("no ROOM is wanted", Due.told("founder;founder;tie 0 1 10;tie 1 1 10;tie 2 1 10;tie 3 1 10;tie 4 1 10;"
            + "tie 10 1 10;tie 11 1 10;tie 12 1 10;tie 13 1 10;tie 14 1 10;").copies(), 0);
    }

    private static void copiesUpToTenThreads() {
        int[] places = {0, 1, 2, 4, 0, 1, 2, 4, 0, 1};
        for (int n = 1; n <= 10; n++) {
            ThreadBank bank = of("old;old;", java.util.Arrays.copyOf(places, n));
            DUE.is(n + " debts", bank.copies(), n <= 5 ? n : Due.NONE);
            DUE.is("nothing is tied", bank.rule(1), n);
        }
        ThreadBank nine = Due.told("old;old;tie 0 1 10;tie 0 1 10;tie 0 1 10;tie 1 1 10;tie 1 1 10;tie 1 1 10;"
            + "tie 2 1 10;tie 2 1 10;tie 2 1 10;");
        DUE.is("one more is the 10th", nine.copies(), 1);
        nine.tie(4, 1, 10);
        DUE.is("one more were the 11th", nine.copies(), Due.NONE);
    }

    private static void copiesUpToTheRoom() {
        // Hand 1 has 5 ROOMS: so many less than 5 as are there.
        ThreadBank bank = Due.told("old;founder;tie 0 1 10;tie 0 1 11;tie 10 1 10;tie 11 1 10;tie 12 1 10;");
        DUE.is("one debt, two ROOMS", bank.copies(), 1);
        bank.tie(0, 1, 12);
        DUE.is("two debts, two ROOMS", bank.copies(), 2);
        bank.tie(1, 1, 13);
        DUE.is("three debts, two ROOMS", bank.copies(), Due.NONE);
        bank.teach(1, 0);
        DUE.is("three debts, seven ROOMS", bank.copies(), 3);
    }

    private static void copiesOnOtherHandsAlone() {
        // 9 THREADS; hand 1 is full, hand 0 has ROOM.
        ThreadBank bank = Due.told("plain;founder;tie 10 1 10;tie 11 1 10;tie 12 1 10;tie 13 1 10;tie 14 1 10;"
            + "tie 0 1 10;");
        DUE.is("nothing to be tied", bank.copies(), 0);
        bank.tie(1, 1, 20);
        DUE.is("ROOM on its own hand alone", bank.copies(), Due.NONE);
        bank.move(6, 2);
        DUE.is("wherever there", bank.copies(), Due.NONE);
        bank.cut(0);
        DUE.is("ROOM on the other one", bank.copies(), 1);
        ThreadBank both = Due.told("founder;founder;tie 0 1 10;tie 1 1 11;tie 10 1 12;tie 11 1 13;");
        DUE.is("each on the other hand", both.copies(), 4);
        both.tie(12, 1, 12);
        both.tie(13, 1, 12);
        DUE.is("one ROOM there, two to come", both.copies(), Due.NONE);
    }

    // ---- 26: spare

    private static void spareBounds() {
        DUE.takes("spare(what)", Due.from(0, 1), n -> new ThreadBank().spare(n));
        DUE.takes("spare(what) of some", Due.from(0, 1), n -> of("old;old;", 0, 10).spare(n));
    }

    private static void spareAllAndNone() {
        int[] bits = {0, 1, 3, 7, 15};
        for (int there = 0; there <= 4; there++) {
            ThreadBank bank = Due.told("old;".repeat(there));
            DUE.is("all of " + there, bank.spare(0), there);
            DUE.is("all bits of " + there, bank.spare(1), bits[there]);
        }
        ThreadBank none = of("old;old;old;old;", 0, 10, 20, 30);
        DUE.is("none", none.spare(0), 0);
        DUE.is("no bits", none.spare(1), 0);
    }

    private static void spareTheLeastSet() {
        ThreadBank bank = Due.told("old;old;old;old;tie 0 1 10;tie 10 1 10;tie 20 1 10;tie 30 1 10;");
        DUE.is("three of four", bank.spare(0), 3);
        DUE.is("the least three", bank.spare(1), 7);
        bank.tie(1, 1, 11);
        DUE.is("0 is wanted", bank.spare(1), 14);
        bank.tie(11, 1, 12);
        DUE.is("0 and 1 are wanted", bank.spare(1), 12);
        bank.tie(31, 1, 13);
        DUE.is("2 alone is spare", bank.spare(1), 4);
        DUE.is("one", bank.spare(0), 1);
        ThreadBank two = Due.told("old;old;old;tie 0 1 10;tie 10 1 10;tie 11 1 11;tie 20 1 11;");
        DUE.is("0 and 2 at once", two.spare(1), 5);
    }

    // ---- 27: quarrel

    private static void quarrelBounds() {
        DUE.takes("quarrel(what)", Due.from(0, 1), n -> new ThreadBank().quarrel(n));
        DUE.takes("quarrel(what) of some", Due.from(0, 1), n -> quarrelling("tie 10 1 20;").quarrel(n));
    }

    private static ThreadBank quarrelling(String ties) {
        return Due.told("plain;plain;plain;tie 0 1 10;" + ties);
    }

    private static void quarrelNoneAndMost() {
        DUE.is("no THREADS", new ThreadBank().quarrel(0), 0);
        DUE.is("no first", new ThreadBank().quarrel(1), Due.NONE);
        ThreadBank bank = Due.told("old;old;old;old;");
        int[] places = {0, 10, 20, 30, 1, 11, 21, 31, 2};
        for (int i = 0; i < 9; i++) {
            bank.tie(places[i], 1, 10 * (i + 1));
        }
        // 36 twos of 9, but for those on one hand: 3 of 0, 1 of each other one.
        DUE.is("nine THREADS", bank.quarrel(0), 36 - 3 - 3);
        DUE.is("the first", bank.quarrel(1), 1);
    }

    /** Each thing that makes a quarrel, left out in its turn. */
    private static void quarrelOrNot() {
        DUE.is("a quarrel", quarrelling("tie 10 1 20;").quarrel(0), 1);
        DUE.is("by 9 to 1", quarrelling("tie 20 1 90;").quarrel(0), 1);
        DUE.is("on one hand", quarrelling("tie 1 1 20;").quarrel(0), 0);
        DUE.is("of another DAY", quarrelling("tie 10 1 21;").quarrel(0), 0);
        DUE.is("as MUCH", quarrelling("tie 10 1 10;").quarrel(0), 0);
        DUE.is("as MUCH, of another DAY", quarrelling("tie 10 1 11;").quarrel(0), 0);
        DUE.is("of the PAIR turned", quarrelling("tie 10 10 20;").quarrel(0), 0);
        DUE.is("of another PAIR", quarrelling("tie 10 2 20;").quarrel(0), 0);
        DUE.is("CLERKS of one KIND", Due.told("old;old;tie 0 1 10;tie 10 1 20;").quarrel(0), 1);
        DUE.is("CLERKS of two KINDS", Due.told("old;left;tie 0 1 10;tie 10 1 20;").quarrel(0), 1);
    }

    private static void quarrelTheFirst() {
        DUE.is("0 and 1", quarrelling("tie 10 1 20;").quarrel(1), 1);
        DUE.is("0 and 2", quarrelling("tie 1 1 20;tie 10 1 20;").quarrel(1), 2);
        DUE.is("1 and 2", quarrelling("tie 1 2 20;tie 10 2 30;").quarrel(1), 12);
        DUE.is("by the lesser one first", quarrelling("tie 1 2 20;tie 10 2 30;tie 11 1 30;").quarrel(1), 3);
        ThreadBank last = of("old;old;", 0, 0, 0, 1, 1, 1, 2, 2);
        last.tie(4, 10, 20);
        last.tie(14, 10, 30);
        DUE.is("8 and 9", last.quarrel(1), 89);
        DUE.is("it alone", last.quarrel(0), 1);
    }
}
