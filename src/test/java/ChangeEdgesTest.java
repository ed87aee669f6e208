/** The edges that promises 10 to 15 name: what is changed. */
public final class ChangeEdgesTest {
    private static final Due DUE = new Due("ChangeEdgesTest");

    public static void main(String[] args) {
        tieBounds();
        tieTellsItsNumber();
        tieFullByTen();
        tieFullByRoom();
        tieIsBadBeforeFull();
        cutBounds();
        cutFirstMiddleLast();
        cutOfTheOnlyOne();
        cutMakesRoom();
        moveBounds();
        moveToWhereItIs();
        moveToTheLastRoom();
        moveWithTenThreads();
        moveKeepsItsNumber();
        moveIsBadBeforeState();
        loseBounds();
        loseNoneOrAll();
        loseKeepsTheOrder();
        loseKeepsTheClerk();
        teachBounds();
        teachByEachFinger();
        teachTheSameKind();
        dayBounds();
        dayFromEachToEach();
        DUE.end();
    }

    private static String clerks(int n) {
        return "old;".repeat(n);
    }

    /** So many THREADS on two old CLERKS' hands, each of another KNOT. */
    private static ThreadBank withThreads(int n) {
        ThreadBank bank = Due.told(clerks(2));
        for (int t = 0; t < n; t++) {
            bank.tie(10 * (t % 2) + t / 2 % 3, 1, 10 + t);
        }
        return bank;
    }

    private static String knots(ThreadBank bank) {
        StringBuilder knots = new StringBuilder();
        for (int t = 0; t < bank.rule(1); t++) {
            knots.append(bank.thread(t, 2)).append(' ');
        }
        return knots.toString();
    }

    // ---- 10: tie

    private static void tieBounds() {
        for (int there = 0; there <= 4; there++) {
            String text = "plain;".repeat(there);
            DUE.takes("tie(place, 1, 10) of " + there, Due.placesOf(there < 2 ? 0 : there),
                n -> Due.told(text).tie(n, 1, 10));
            DUE.takes("tie(0, pair, 10) of " + there, Due.pairsOf(there), n -> Due.told(text).tie(0, n, 10));
        }
        DUE.takes("tie(0, 1, knot)", Due.from(10, 99), n -> Due.told("plain;plain;").tie(0, 1, n));
    }

    private static void tieTellsItsNumber() {
        ThreadBank bank = Due.told(clerks(4));
        for (int t = 0; t < 10; t++) {
            DUE.is("tie " + t, bank.tie(10 * (t % 4) + t / 4, 12, 99 - t), t);
            DUE.is("THREADS", bank.rule(1), t + 1);
            DUE.is("PLACE", bank.thread(t, 0), 10 * (t % 4) + t / 4);
            DUE.is("PAIR", bank.thread(t, 1), 12);
            DUE.is("KNOT", bank.thread(t, 2), 99 - t);
        }
        DUE.is("those before stay", knots(bank), "99 98 97 96 95 94 93 92 91 90 ");
    }

    private static void tieFullByTen() {
        ThreadBank bank = withThreads(9);
        DUE.is("the 10th", bank.tie(4, 1, 10), 9);
        String before = Due.all(bank);
        DUE.is("the 11th, with ROOM", bank.tie(4, 1, 10), Due.FULL);
        DUE.is("the 11th, on an empty FINGER", bank.tie(14, 1, 10), Due.FULL);
        DUE.is("state", Due.all(bank), before);
        bank.cut(0);
        DUE.is("the 10th again", bank.tie(14, 1, 10), 9);
    }

    private static void tieFullByRoom() {
        for (int kind = 0; kind < 4; kind++) {
            for (int finger = 0; finger < 5; finger++) {
                ThreadBank bank = Due.told("plain;" + Due.KINDS[kind] + ";");
                int room = Due.ROOMS[kind][finger];
                for (int n = 0; n < room; n++) {
                    DUE.is("tie", bank.tie(10 + finger, 1, 10), n);
                }
                String before = Due.all(bank);
                DUE.is("on a full FINGER of " + Due.KINDS[kind], bank.tie(10 + finger, 1, 10), Due.FULL);
                DUE.is("state", Due.all(bank), before);
                DUE.is("on the same FINGER of another hand", bank.tie(finger, 1, 10), room);
            }
        }
    }

    private static void tieIsBadBeforeFull() {
        ThreadBank bank = withThreads(10);
        DUE.is("PLACE", bank.tie(5, 1, 10), Due.BAD);
        DUE.is("PAIR", bank.tie(4, 2, 10), Due.BAD);
        DUE.is("KNOT", bank.tie(4, 1, 9), Due.BAD);
        DUE.is("on no ROOM", bank.tie(3, 1, 100), Due.BAD);
        DUE.is("THREADS", bank.rule(1), 10);
    }

    // ---- 11: cut

    private static void cutBounds() {
        for (int there : new int[] {0, 1, 5, 10}) {
            DUE.takes("cut(t) of " + there, Due.from(0, there - 1), n -> withThreads(there).cut(n));
        }
    }

    private static void cutFirstMiddleLast() {
        for (int t = 0; t < 10; t++) {
            ThreadBank bank = withThreads(10);
            int pair = bank.thread(9, 1);
            int place = bank.thread(9, 0);
            DUE.is("cut(" + t + ")", bank.cut(t), 9);
            DUE.is("all but that one", knots(bank), "10 11 12 13 14 15 16 17 18 19 ".replace(10 + t + " ", ""));
            DUE.is("the 10th is none", bank.thread(9, 0), Due.BAD);
            if (t < 9) {
                DUE.is("its PLACE comes along", bank.thread(8, 0), place);
                DUE.is("its PAIR comes along", bank.thread(8, 1), pair);
            }
        }
    }

    private static void cutOfTheOnlyOne() {
        ThreadBank bank = withThreads(1);
        DUE.is("the only one", bank.cut(0), 0);
        DUE.is("none", bank.cut(0), Due.BAD);
        DUE.is("nothing is OWED", bank.sum(0), 0);
    }

    private static void cutMakesRoom() {
        ThreadBank bank = Due.told("founder;plain;tie 0 1 10;");
        DUE.is("full", bank.tie(0, 1, 11), Due.FULL);
        bank.cut(0);
        DUE.is("ROOM", bank.tie(0, 1, 11), 0);
    }

    // ---- 12: move

    private static void moveBounds() {
        for (int there : new int[] {0, 1, 5, 10}) {
            DUE.takes("move(t, 4) of " + there, Due.from(0, there - 1), n -> withThreads(there).move(n, 4));
        }
        for (int there = 2; there <= 4; there++) {
            String text = "plain;".repeat(there) + "tie 1 1 10;";
            DUE.takes("move(0, place) of " + there, Due.placesOf(there), n -> Due.told(text).move(0, n));
        }
    }

    private static void moveToWhereItIs() {
        ThreadBank bank = Due.told("plain;founder;tie 0 1 10;tie 10 1 11;tie 0 1 12;");
        String before = Due.all(bank);
        DUE.is("it is there, with ROOM", Due.told("plain;plain;tie 0 1 10;").move(0, 0), Due.STATE);
        DUE.is("it is there, full", bank.move(0, 0), Due.STATE);
        DUE.is("it is there, full of one", bank.move(1, 10), Due.STATE);
        DUE.is("another one is there, full", bank.move(1, 0), Due.FULL);
        DUE.is("state", Due.all(bank), before);
    }

    private static void moveToTheLastRoom() {
        for (int kind = 0; kind < 4; kind++) {
            for (int finger = 0; finger < 5; finger++) {
                int room = Due.ROOMS[kind][finger];
                ThreadBank bank = Due.told("old;" + Due.KINDS[kind] + ";tie 0 1 10;tie 0 1 11;tie 0 1 12;tie 1 1 13;");
                for (int n = 0; n < room; n++) {
                    DUE.is("with ROOM left", bank.move(n, 10 + finger), 0);
                    DUE.is("it is there", bank.thread(n, 0), 10 + finger);
                }
                String before = Due.all(bank);
                DUE.is("no ROOM", bank.move(3, 10 + finger), Due.FULL);
                DUE.is("state", Due.all(bank), before);
            }
        }
    }

    private static void moveWithTenThreads() {
        ThreadBank bank = withThreads(10);
        DUE.is("ten are no bar", bank.move(9, 14), 11);
        DUE.is("it is there", bank.thread(9, 0), 14);
        DUE.is("THREADS", bank.rule(1), 10);
    }

    private static void moveKeepsItsNumber() {
        ThreadBank bank = withThreads(4);
        DUE.is("the first", bank.move(0, 14), 0);
        DUE.is("the order", knots(bank), "10 11 12 13 ");
        DUE.is("ROOM is free where it was", bank.finger(0, 1), 0);
        DUE.is("and back", bank.move(0, 0), 14);
        DUE.is("PAIR", bank.thread(0, 1), 1);
    }

    private static void moveIsBadBeforeState() {
        ThreadBank bank = Due.told("plain;founder;tie 10 1 10;");
        DUE.is("no THREAD, a full FINGER", bank.move(1, 10), Due.BAD);
        DUE.is("no PLACE", bank.move(0, 15), Due.BAD);
        DUE.is("neither", bank.move(-1, -1), Due.BAD);
        DUE.is("where it was", bank.thread(0, 0), 10);
    }

    // ---- 13: lose

    private static void loseBounds() {
        for (int there = 0; there <= 4; there++) {
            String text = clerks(there);
            DUE.takes("lose(c) of " + there, Due.from(0, there - 1), n -> Due.told(text).lose(n));
        }
    }

    private static void loseNoneOrAll() {
        ThreadBank bank = Due.told("old;old;");
        DUE.is("an empty hand", bank.lose(0), 0);
        for (int t = 0; t < 10; t++) {
            bank.tie(new int[] {10, 11, 12, 14}[t / 3], 1, 10 + t);
        }
        DUE.is("the other one", bank.lose(0), 0);
        DUE.is("THREADS", bank.rule(1), 10);
        DUE.is("all ten", bank.lose(1), 10);
        DUE.is("THREADS then", bank.rule(1), 0);
        DUE.is("an empty hand then", bank.lose(1), 0);
    }

    private static void loseKeepsTheOrder() {
        ThreadBank bank = withThreads(10);
        DUE.is("every second", bank.lose(0), 5);
        DUE.is("the others", knots(bank), "11 13 15 17 19 ");
        ThreadBank other = withThreads(9);
        DUE.is("every second", other.lose(1), 4);
        DUE.is("the others", knots(other), "10 12 14 16 18 ");
    }

    private static void loseKeepsTheClerk() {
        ThreadBank bank = withThreads(10);
        bank.lose(1);
        DUE.is("CLERKS", bank.rule(0), 2);
        DUE.is("KIND", bank.clerk(1, 0), 2);
        DUE.is("ROOM is free", bank.tie(10, 1, 10), 5);
    }

    // ---- 14: teach

    private static void teachBounds() {
        for (int there = 0; there <= 4; there++) {
            String text = clerks(there);
            DUE.takes("teach(c, 0) of " + there, Due.from(0, there - 1), n -> Due.told(text).teach(n, 0));
        }
        DUE.takes("teach(0, kind)", Due.from(0, 3), n -> Due.told("plain;").teach(0, n));
        ThreadBank bank = Due.told("old;plain;tie 0 1 10;tie 0 1 10;tie 0 1 10;");
        DUE.is("BAD before FULL", bank.teach(0, 4), Due.BAD);
        DUE.is("BAD before FULL, too", bank.teach(2, 3), Due.BAD);
    }

    /** From each KIND to each, with each number of THREADS on each FINGER. */
    private static void teachByEachFinger() {
        for (int from = 0; from < 4; from++) {
            for (int to = 0; to < 4; to++) {
                for (int finger = 0; finger < 5; finger++) {
                    for (int n = 0; n <= Due.ROOMS[from][finger]; n++) {
                        ThreadBank bank = Due.told("plain;" + Due.KINDS[from] + ";");
                        for (int t = 0; t < n; t++) {
                            bank.tie(10 + finger, 1, 10);
                        }
                        String before = Due.all(bank);
                        boolean full = n > Due.ROOMS[to][finger];
                        DUE.is(n + " on FINGER " + finger + " from " + from + " to " + to, bank.teach(1, to),
                            full ? Due.FULL : from);
                        DUE.is("KIND", bank.clerk(1, 0), full ? from : to);
                        if (full) {
                            DUE.is("state", Due.all(bank), before);
                        }
                    }
                }
            }
        }
    }

    private static void teachTheSameKind() {
        for (int kind = 0; kind < 4; kind++) {
            DUE.is("of which it is", Due.told(Due.KINDS[kind] + ";").teach(0, kind), kind);
        }
        DUE.is("a full hand of the other one is no bar",
            Due.told("plain;old;tie 10 1 10;tie 10 1 10;tie 10 1 10;").teach(0, 3), 0);
    }

    // ---- 15: day

    private static void dayBounds() {
        DUE.takes("day(d)", Due.from(0, 9), n -> new ThreadBank().day(n));
        ThreadBank bank = Due.told("day 7;");
        bank.day(-1);
        bank.day(10);
        DUE.is("DAY stays", bank.rule(2), 7);
    }

    private static void dayFromEachToEach() {
        for (int from = 0; from <= 9; from++) {
            for (int to = 0; to <= 9; to++) {
                ThreadBank bank = Due.told("day " + from + ";");
                DUE.is("day(" + to + ")", bank.day(to), from);
                DUE.is("DAY", bank.rule(2), to);
            }
        }
    }
}
