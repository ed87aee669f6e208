/** Promises 35 to 41: IMAGES, SHEETS, what can be counted. */
public final class SheetTest {
    private static final Due DUE = new Due("SheetTest");

    public static void main(String[] args) {
        images();
        sheet();
        lay();
        readTies();
        readFaults();
        readRefused();
        readLowestBits();
        readNothing();
        torn();
        count();
        DUE.end();
    }

    private static void images() {
        ThreadBank bank = Due.told("plain;old;day 3;tie 0 1 10;tie 10 10 20;");
        bank.see(1, 1);
        for (int k : new int[] {-1, 2}) {
            DUE.is("keep", bank.keep(k), Due.BAD);
            DUE.is("back", bank.back(k), Due.BAD);
        }
        DUE.is("back of none", bank.back(0), Due.STATE);
        DUE.is("keep(1)", bank.keep(1), 0);
        String then = Due.all(bank);
        DUE.is("back(0)", bank.back(0), Due.STATE);
        changeAll(bank);
        DUE.is("back(1)", bank.back(1), 2);
        DUE.is("all as then", Due.all(bank), then);
        changeAll(bank);
        DUE.is("keep(0)", bank.keep(0), 0);
        DUE.is("keep(0) again", bank.keep(0), 1);
        DUE.is("back(1) again", bank.back(1), 2);
        DUE.is("kind", bank.clerk(0, 0), 0);
        DUE.is("day", bank.rule(2), 3);
        DUE.is("seen", bank.fits(2), 0);
        bank.cut(0);
        DUE.is("the image is not what is now", bank.back(1), 2);
        DUE.is("back(0)", bank.back(0), 0);
        DUE.is("kind then", bank.clerk(0, 0), 3);
        DUE.is("day then", bank.rule(2), 8);
    }

    private static void changeAll(ThreadBank bank) {
        bank.lose(0);
        bank.lose(1);
        bank.teach(0, 3);
        bank.day(8);
        bank.forget(0);
        bank.see(10, 7);
    }

    private static void sheet() {
        ThreadBank bank = new ThreadBank();
        DUE.is("sheet(-1)", bank.sheet(-1, 0, 1), Due.BAD);
        DUE.is("sheet(4)", bank.sheet(4, 0, 1), Due.BAD);
        DUE.is("lane -1", bank.sheet(0, -1, 1), Due.BAD);
        DUE.is("lane 3", bank.sheet(0, 3, 1), Due.BAD);
        DUE.is("41 cells", bank.sheet(0, 0, 41), Due.BAD);
        DUE.is("below 0", bank.sheet(0, 0, -1), -14);
        DUE.is("far below 0", bank.sheet(3, 2, Integer.MIN_VALUE), -14);
        DUE.is("BAD before SIZE", bank.sheet(4, 0, -1), Due.BAD);
        DUE.is("still nothing", bank.count(5), Due.NONE);
        DUE.is("40 cells", bank.sheet(0, 0, 40), 1);
        DUE.is("count(5)", bank.count(5), 40);
        DUE.is("refused", bank.sheet(0, 0, -1), -14);
        DUE.is("40 still", bank.count(5), 40);
        DUE.is("0 cells", bank.sheet(0, 2, 0), 1);
        DUE.is("count(5) of 0", bank.count(5), 0);
        DUE.is("torn is not touched", bank.torn(), 0);
    }

    private static void lay() {
        ThreadBank bank = new ThreadBank();
        DUE.is("lay(-1)", bank.lay(-1, 0, 1), Due.BAD);
        DUE.is("lay(4)", bank.lay(4, 0, 1), Due.BAD);
        DUE.is("nothing", bank.lay(0, -1, 1), -11);
        bank.sheet(0, 0, 3);
        DUE.is("index 3", bank.lay(0, 3, 1), -12);
        DUE.is("index -1", bank.lay(0, -1, 1), -12);
        DUE.is("index", bank.lay(0, 2, 1), 1);
        bank.sheet(1, 1, 0);
        DUE.is("no cell", bank.lay(1, 0, 1), -12);
        DUE.is("torn is not touched", bank.torn(), 0);
    }

    private static void lays(ThreadBank bank, int k, int... cells) {
        for (int i = 0; i < cells.length; i++) {
            DUE.is("lay", bank.lay(k, i, cells[i]), 1);
        }
    }

    private static ThreadBank ready(int lane, int size) {
        ThreadBank bank = Due.told("plain;plain;tie 0 1 19;");
        bank.sheet(1, lane, size);
        return bank;
    }

    private static void readTies() {
        for (int lane = 0; lane < 3; lane++) {
            ThreadBank bank = ready(lane, 9);
            lays(bank, 1, 7, 0, 1, 10, 10, 10, 99, 3, 3);
            DUE.is("read", bank.read(1, lane, 1, 2), 2);
            DUE.is("threads", bank.rule(1), 3);
            DUE.is("place", bank.thread(2, 0), 10);
            DUE.is("pair", bank.thread(2, 1), 10);
            DUE.is("knot", bank.thread(2, 2), 99);
            DUE.is("torn", bank.torn(), 0);
            DUE.is("none asked", bank.read(1, lane, 1, 0), 0);
            bank.sheet(1, lane, 9);
            DUE.is("a new sheet is all 0", bank.read(1, lane, 0, 1), -20);
            bank.cut(0);
            bank.lay(1, 1, 1);
            bank.lay(1, 2, 77);
            DUE.is("its first cell too", bank.read(1, lane, 0, 1), 1);
            DUE.is("place", bank.thread(2, 0), 0);
        }
    }

    private static void readFaults() {
        ThreadBank bank = ready(1, 8);
        lays(bank, 1, 0, 1, 10, 10, 10, 99, 11, 1);
        DUE.is("the third is not whole", bank.read(1, 1, 0, 3), 2);
        DUE.is("INDEX", bank.torn(), 2);
        DUE.is("two are tied", bank.rule(1), 3);
        DUE.is("from behind", bank.read(1, 1, 8, 1), 0);
        DUE.is("from below", bank.read(1, 1, -1, 1), 0);
        DUE.is("from far", bank.read(1, 1, Integer.MAX_VALUE, 10), 0);
        DUE.is("from far below", bank.read(1, 1, Integer.MIN_VALUE, 10), 0);
        DUE.is("INDEX", bank.torn(), 2);
        DUE.is("another lane", bank.read(1, 0, 0, 1), 0);
        DUE.is("CAST", bank.torn(), 3);
        DUE.is("CAST before INDEX", bank.read(1, 2, -5, 1), 0);
        DUE.is("CAST", bank.torn(), 3);
        for (int lane = 0; lane < 3; lane++) {
            DUE.is("nothing", bank.read(0, lane, -1, 3), 0);
            DUE.is("NULL", bank.torn(), 1);
        }
        DUE.is("threads", bank.rule(1), 3);
    }

    private static void readRefused() {
        ThreadBank bank = ready(2, 9);
        lays(bank, 1, 0, 1, 10, 0, 1, 11, 10, 1, 12);
        String before = Due.all(bank);
        DUE.is("the second has no room", bank.read(1, 2, 0, 3), -21);
        DUE.is("none is tied", Due.all(bank), before);
        bank.lay(1, 3, 1);
        bank.lay(1, 6, 5);
        DUE.is("the third is bad", bank.read(1, 2, 0, 4), -22);
        DUE.is("none is tied", Due.all(bank), before);
        bank.lay(1, 6, 13);
        DUE.is("then one behind the end", bank.read(1, 2, 0, 4), 3);
        DUE.is("three are tied", bank.rule(1), 4);
        int[][] bad = {{-1, 0, 0, 1}, {4, 0, 0, 1}, {1, -1, 0, 1}, {1, 3, 0, 1}, {1, 2, 0, -1}, {1, 2, 0, 11}};
        for (int[] b : bad) {
            DUE.is("bad read", bank.read(b[0], b[1], b[2], b[3]), Due.BAD);
        }
        ThreadBank many = Due.told("old;old;");
        many.sheet(3, 0, 33);
        for (int i = 0; i < 11; i++) {
            many.lay(3, 3 * i, i % 3 + 10 * (i % 2));
            many.lay(3, 3 * i + 1, 1);
            many.lay(3, 3 * i + 2, 10 + i);
        }
        DUE.is("ten", many.read(3, 0, 0, 10), 10);
        DUE.is("the 11th", many.read(3, 0, 30, 1), -20);
    }

    private static void readLowestBits() {
        for (int lane = 0; lane < 3; lane++) {
            ThreadBank bank = ready(lane, 3);
            lays(bank, 1, 256, 65537, 10 + (1 << 20));
            int[] want = {1, -20, -20};
            DUE.is("lane " + lane, bank.read(1, lane, 0, 1), want[lane]);
        }
        ThreadBank bytes = ready(0, 3);
        lays(bytes, 1, 0, 1, 200);
        DUE.is("200 is below 0 as a byte", bytes.read(1, 0, 0, 1), -20);
        ThreadBank shorts = ready(1, 3);
        lays(shorts, 1, -65536, 65536 + 1, 65536 * 3 + 99);
        DUE.is("lowest 16 bits", shorts.read(1, 1, 0, 1), 1);
        DUE.is("knot", shorts.thread(1, 2), 99);
    }

    private static void readNothing() {
        ThreadBank bank = ready(0, 3);
        DUE.is("none of nothing", bank.read(0, 0, 0, 0), 0);
        DUE.is("no CELL is asked", bank.torn(), 0);
        DUE.is("none of another lane", bank.read(1, 1, 0, 0), 0);
        DUE.is("taken as of it all the same", bank.torn(), 3);
        DUE.is("none beside", bank.read(1, 0, 99, 0), 0);
        DUE.is("no CELL is asked", bank.torn(), 0);
    }

    private static void torn() {
        ThreadBank bank = ready(0, 6);
        lays(bank, 1, 0, 1, 10, 0, 1, 10);
        bank.read(0, 0, 0, 1);
        DUE.is("NULL", bank.torn(), 1);
        DUE.is("refused", bank.read(1, 0, 0, 2), -21);
        DUE.is("came to no end", bank.torn(), 1);
        DUE.is("bad", bank.read(1, 0, 0, 11), Due.BAD);
        DUE.is("came to no end", bank.torn(), 1);
        bank.text();
        DUE.is("a text is no read", bank.torn(), 1);
        Due.tell(bank, "plain;plain;");
        DUE.is("read", bank.read(1, 0, 0, 2), 2);
        DUE.is("no fault", bank.torn(), 0);
    }

    private static void count() {
        ThreadBank bank = Due.told("old;plain;tie 0 1 10;tie 0 1 10;tie 10 1 10;tie 10 1 11;tie 1 10 10;");
        bank.see(1, 3);
        bank.keep(1);
        bank.feed(65);
        bank.sheet(1, 0, 9);
        int[] want = {3, 1, 1, 1, 1, Due.NONE};
        for (int what = 0; what < 6; what++) {
            DUE.is("count(" + what + ")", bank.count(what), want[what]);
        }
        bank.sheet(0, 1, 7);
        DUE.is("count(5)", bank.count(5), 7);
        bank.keep(0);
        DUE.is("count(3)", bank.count(3), 2);
        DUE.is("count(6)", bank.count(6), Due.BAD);
        DUE.is("count(-1)", bank.count(-1), Due.BAD);
    }
}
