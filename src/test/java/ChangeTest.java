/** Promises 10 to 15: what is changed. */
public final class ChangeTest {
    private static final Due DUE = new Due("ChangeTest");

    public static void main(String[] args) {
        tie();
        tieFull();
        cut();
        move();
        lose();
        teach();
        day();
        DUE.end();
    }

    private static void unchanged(String call, ThreadBank bank, String before) {
        DUE.is("state behind " + call, Due.all(bank), before);
    }

    private static void tie() {
        ThreadBank bank = Due.told("plain;left;");
        DUE.is("tie", bank.tie(14, 10, 99), 0);
        DUE.is("tie again", bank.tie(14, 1, 10), 1);
        DUE.is("place", bank.thread(1, 0), 14);
        DUE.is("pair", bank.thread(1, 1), 1);
        DUE.is("knot", bank.thread(1, 2), 10);
        String before = Due.all(bank);
        int[][] bad = {{-1, 1, 10}, {5, 1, 10}, {20, 1, 10}, {15, 1, 10}, {0, 0, 10}, {0, 11, 10}, {0, 2, 10},
            {0, 20, 10}, {0, -1, 10}, {0, 1, 9}, {0, 1, 100}, {0, 1, -10}, {14, 1, 100}};
        for (int[] t : bad) {
            DUE.is("bad tie", bank.tie(t[0], t[1], t[2]), Due.BAD);
        }
        DUE.is("no room", bank.tie(14, 1, 10), Due.FULL);
        DUE.is("no room ever", bank.tie(13, 1, 10), Due.FULL);
        unchanged("refused ties", bank, before);
    }

    private static void tieFull() {
        ThreadBank bank = Due.told("old;old;");
        for (int i = 0; i < 10; i++) {
            DUE.is("tie " + i, bank.tie(i % 3 + i % 2 * 10, 1, 10 + i), i);
        }
        DUE.is("the 11th", bank.tie(4, 1, 10), Due.FULL);
        DUE.is("the 11th, bad", bank.tie(5, 1, 10), Due.BAD);
        DUE.is("threads", bank.rule(1), 10);
    }

    private static void cut() {
        ThreadBank bank = Due.told("plain;plain;tie 0 1 11;tie 10 1 11;tie 11 10 33;");
        DUE.is("copy", bank.thread(1, 3), 1);
        DUE.is("cut(3)", bank.cut(3), Due.BAD);
        DUE.is("cut(-1)", bank.cut(-1), Due.BAD);
        DUE.is("threads", bank.rule(1), 3);
        DUE.is("cut(0)", bank.cut(0), 2);
        DUE.is("place", bank.thread(0, 0), 10);
        DUE.is("knot", bank.thread(1, 2), 33);
        DUE.is("pair", bank.thread(1, 1), 10);
        DUE.is("no copy now", bank.thread(0, 3), 0);
        DUE.is("cut(1)", bank.cut(1), 1);
        DUE.is("cut(0)", bank.cut(0), 0);
        DUE.is("cut of none", bank.cut(0), Due.BAD);
    }

    private static void move() {
        ThreadBank bank = Due.told("plain;founder;left;tie 0 1 11;tie 1 1 11;tie 10 1 12;");
        String before = Due.all(bank);
        DUE.is("move(3, 0)", bank.move(3, 0), Due.BAD);
        DUE.is("move(-1, 0)", bank.move(-1, 0), Due.BAD);
        DUE.is("move(0, 5)", bank.move(0, 5), Due.BAD);
        DUE.is("move(0, 30)", bank.move(0, 30), Due.BAD);
        DUE.is("move(0, -1)", bank.move(0, -1), Due.BAD);
        DUE.is("move to where it is", bank.move(0, 0), Due.STATE);
        DUE.is("move to where it is, full", bank.move(2, 10), Due.STATE);
        DUE.is("move without room", bank.move(0, 10), Due.FULL);
        DUE.is("move to no finger", bank.move(0, 23), Due.FULL);
        unchanged("refused moves", bank, before);
        DUE.is("move", bank.move(0, 14), 0);
        DUE.is("place", bank.thread(0, 0), 14);
        DUE.is("order stays", bank.thread(1, 3), 1);
        DUE.is("move on", bank.move(0, 1), 14);
        DUE.is("same hand", bank.thread(1, 3), 0);
    }

    private static void lose() {
        ThreadBank bank = Due.told("plain;plain;plain;tie 0 1 11;tie 10 1 12;tie 1 1 13;tie 4 1 14;tie 14 1 15;");
        DUE.is("lose(3)", bank.lose(3), Due.BAD);
        DUE.is("lose(-1)", bank.lose(-1), Due.BAD);
        DUE.is("lose(2)", bank.lose(2), 0);
        DUE.is("lose(0)", bank.lose(0), 3);
        DUE.is("left", bank.rule(1), 2);
        DUE.is("first", bank.thread(0, 2), 12);
        DUE.is("second", bank.thread(1, 2), 15);
        DUE.is("clerks stay", bank.rule(0), 3);
        DUE.is("lose(0) again", bank.lose(0), 0);
    }

    private static void teach() {
        ThreadBank bank = Due.told("old;plain;tie 0 1 11;tie 0 1 11;tie 0 1 11;tie 13 1 11;");
        String before = Due.all(bank);
        DUE.is("teach(2, 0)", bank.teach(2, 0), Due.BAD);
        DUE.is("teach(-1, 0)", bank.teach(-1, 0), Due.BAD);
        DUE.is("teach(0, 4)", bank.teach(0, 4), Due.BAD);
        DUE.is("teach(0, -1)", bank.teach(0, -1), Due.BAD);
        for (int kind = 0; kind < 4; kind++) {
            if (kind != 2) {
                DUE.is("too many for " + kind, bank.teach(0, kind), Due.FULL);
            }
        }
        DUE.is("finger 3 for left", bank.teach(1, 1), Due.FULL);
        DUE.is("finger 3 for old", bank.teach(1, 2), Due.FULL);
        unchanged("refused teach", bank, before);
        DUE.is("the same", bank.teach(0, 2), 2);
        DUE.is("to founder", bank.teach(1, 3), 0);
        DUE.is("kind", bank.clerk(1, 0), 3);
        DUE.is("room", bank.clerk(1, 2), 5);
        bank.cut(0);
        DUE.is("to left", bank.teach(0, 1), 2);
        DUE.is("to plain", bank.teach(0, 0), 1);
        DUE.is("not to founder", bank.teach(0, 3), Due.FULL);
    }

    private static void day() {
        ThreadBank bank = new ThreadBank();
        DUE.is("day(9)", bank.day(9), 0);
        DUE.is("day(10)", bank.day(10), Due.BAD);
        DUE.is("day(-1)", bank.day(-1), Due.BAD);
        DUE.is("day(0)", bank.day(0), 9);
        DUE.is("rule(2)", bank.rule(2), 0);
    }
}
