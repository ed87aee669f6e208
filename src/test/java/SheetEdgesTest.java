/** The edges that promises 35 to 41 name: IMAGES, SHEETS, what can be counted. */
public final class SheetEdgesTest {
    private static final Due DUE = new Due("SheetEdgesTest");
    private static final int NULL = 1;
    private static final int INDEX = 2;
    private static final int CAST = 3;
    private static final int MOST_CELLS = 40;

    public static void main(String[] args) {
        keepBounds();
        keepTheFirstAndTheNext();
        backBounds();
        backWithoutImage();
        backToEmptyAndToFull();
        backToEachThatWasSeen();
        backAgainAndAgain();
        backLeavesTapeAndSheets();
        sheetBounds();
        sheetBelowNothing();
        sheetOfFewestAndMostCells();
        sheetIsNew();
        layBounds();
        layNullBeforeIndex();
        layAtEachEnd();
        layLowestBits();
        readBounds();
        readNone();
        readFromEachCell();
        readFromFarAway();
        readOfAnotherLane();
        readOfNothing();
        readTornBehindWholeOnes();
        readRefusedAtEach();
        readRefusedInWhicheverWay();
        readTheFirstMet();
        readUpToTen();
        tornAtFirst();
        tornOfTheLatestThatEnded();
        tornOfReadsAlone();
        countBounds();
        countNone();
        countMost();
        DUE.end();
    }

    // ---- 35, 36: keep, back

    private static void keepBounds() {
        DUE.takes("keep(k)", Due.from(0, 1), n -> new ThreadBank().keep(n));
    }

    private static void keepTheFirstAndTheNext() {
        ThreadBank bank = new ThreadBank();
        DUE.is("keep(0)", bank.keep(0), 0);
        DUE.is("IMAGES", bank.count(3), 1);
        DUE.is("keep(1)", bank.keep(1), 0);
        DUE.is("IMAGES", bank.count(3), 2);
        DUE.is("keep(0) again", bank.keep(0), 1);
        DUE.is("keep(1) again", bank.keep(1), 1);
        DUE.is("IMAGES still", bank.count(3), 2);
        bank.text();
        DUE.is("keep(0) behind a text", bank.keep(0), 0);
        DUE.is("keep(1) behind a text", bank.keep(1), 0);
    }

    private static ThreadBank withImages() {
        ThreadBank bank = new ThreadBank();
        bank.keep(0);
        bank.keep(1);
        return bank;
    }

    private static void backBounds() {
        DUE.takes("back(k)", Due.from(0, 1), n -> withImages().back(n));
        DUE.takes("back(k) without one", Due.from(0, 1), n -> new ThreadBank().back(n));
    }

    private static void backWithoutImage() {
        ThreadBank bank = Due.told("plain;plain;tie 0 1 10;");
        DUE.is("neither", bank.back(0), Due.STATE);
        DUE.is("neither", bank.back(1), Due.STATE);
        bank.keep(1);
        DUE.is("0 is none", bank.back(0), Due.STATE);
        DUE.is("1 is", bank.back(1), 1);
        Due.tell(bank, "?");
        DUE.is("1 is still, behind a text that was refused", bank.back(1), 1);
        Due.tell(bank, "plain;");
        DUE.is("1 is gone, behind one that was taken", bank.back(1), Due.STATE);
    }

    private static ThreadBank full() {
        ThreadBank bank = Due.told("old;old;plain;founder;day 9;");
        for (int t = 0; t < 10; t++) {
            bank.tie(10 * (t % 2) + t / 2 % 3, 1 + t % 2 * 11, 90 + t);
        }
        for (int i = 0; i < 6; i++) {
            bank.see(1, 9);
        }
        return bank;
    }

    private static void backToEmptyAndToFull() {
        ThreadBank bank = full();
        bank.keep(0);
        bank.keep(1);
        String full = Due.held(bank);
        for (int c = 0; c < 4; c++) {
            bank.lose(c);
            bank.teach(c, 1);
        }
        bank.day(0);
        bank.forget(0);
        bank.keep(0);
        String empty = Due.held(bank);
        DUE.is("to full", bank.back(1), 10);
        DUE.is("KINDS, THREADS, DAY, SEEN", Due.held(bank), full);
        DUE.is("to empty", bank.back(0), 0);
        DUE.is("KINDS, THREADS, DAY, SEEN", Due.held(bank), empty);
    }

    /** Of six that were SEEN one alone tells how many THREADS were cut: 3 of ten are left. */
    private static void backToEachThatWasSeen() {
        for (int telling = 0; telling < 6; telling++) {
            ThreadBank bank = Due.told("old;old;");
            for (int t = 0; t < 10; t++) {
                bank.tie(10 * (t % 2) + t / 2 % 3, 1, 10 + t);
            }
            for (int i = 0; i < 6; i++) {
                bank.see(i == telling ? 1 : 10, i == telling ? 3 : 0);
            }
            bank.keep(0);
            bank.forget(0);
            for (int i = 0; i < 6; i++) {
                bank.see(1, 99);
            }
            bank.back(0);
            DUE.is("SEEN", bank.count(2), 6);
            DUE.is("fits(0)", bank.fits(0), 120);
        }
    }

    private static void backAgainAndAgain() {
        ThreadBank bank = Due.told("plain;plain;tie 0 1 10;tie 1 1 11;");
        bank.keep(0);
        for (int i = 0; i < 3; i++) {
            bank.cut(0);
            bank.tie(10, 10, 99);
            bank.day(5);
            bank.teach(1, 3);
            bank.see(1, 1);
            DUE.is("back(0)", bank.back(0), 2);
            DUE.is("KNOT", bank.thread(0, 2), 10);
            DUE.is("DAY", bank.rule(2), 0);
            DUE.is("KIND", bank.clerk(1, 0), 0);
            DUE.is("SEEN", bank.count(2), 0);
        }
    }

    private static void backLeavesTapeAndSheets() {
        ThreadBank bank = Due.told("plain;plain;");
        bank.keep(0);
        Due.feedAll(bank, "old");
        bank.sheet(0, 0, 5);
        bank.lay(1, 0, 0);
        bank.read(1, 0, 0, 1);
        DUE.is("back(0)", bank.back(0), 0);
        DUE.is("bytes", bank.count(4), 3);
        DUE.is("CELLS", bank.count(5), 5);
        DUE.is("torn", bank.torn(), NULL);
    }

    // ---- 37: sheet

    private static void sheetBounds() {
        for (int lane = 0; lane < 3; lane++) {
            int of = lane;
            DUE.takes("sheet(k, " + lane + ", 3)", Due.from(0, 3), n -> new ThreadBank().sheet(n, of, 3));
            DUE.takes("sheet(0, " + lane + ", n)", n -> n <= MOST_CELLS, n -> new ThreadBank().sheet(0, of, n));
        }
        DUE.takes("sheet(0, lane, 3)", Due.from(0, 2), n -> new ThreadBank().sheet(0, n, 3));
        DUE.takes("sheet(k, 0, -1)", Due.from(0, 3), n -> new ThreadBank().sheet(n, 0, -1));
        DUE.takes("sheet(0, lane, -1)", Due.from(0, 2), n -> new ThreadBank().sheet(0, n, -1));
    }

    private static void sheetBelowNothing() {
        for (int n : new int[] {-1, -2, -40, -41, Integer.MIN_VALUE}) {
            ThreadBank bank = new ThreadBank();
            DUE.is("sheet(0, 0, " + n + ")", bank.sheet(0, 0, n), -14);
            DUE.is("still nothing", bank.count(5), Due.NONE);
            bank.sheet(0, 0, 7);
            DUE.is("sheet(0, 1, " + n + ")", bank.sheet(0, 1, n), -14);
            DUE.is("still the row of 7", bank.count(5), 7);
            DUE.is("still of its lane", bank.read(0, 0, 5, 1), 0);
            DUE.is("no CAST", bank.torn(), INDEX);
        }
    }

    private static void sheetOfFewestAndMostCells() {
        for (int k = 0; k < 4; k++) {
            for (int lane = 0; lane < 3; lane++) {
                for (int n : new int[] {0, 1, MOST_CELLS - 1, MOST_CELLS}) {
                    ThreadBank bank = new ThreadBank();
                    DUE.is("sheet", bank.sheet(k, lane, n), 1);
                    DUE.is("the last CELL", bank.lay(k, n - 1, 1), n == 0 ? -12 : 1);
                    DUE.is("behind it", bank.lay(k, n, 1), -12);
                    DUE.is("CELLS of SHEET 0", bank.count(5), k == 0 ? n : Due.NONE);
                    DUE.is("the next SHEET is nothing", bank.lay((k + 1) % 4, 0, 1), -11);
                }
            }
        }
        ThreadBank bank = new ThreadBank();
        DUE.is("40", bank.sheet(0, 0, MOST_CELLS), 1);
        DUE.is("41", bank.sheet(0, 0, MOST_CELLS + 1), Due.BAD);
        DUE.is("40 still", bank.count(5), MOST_CELLS);
    }

    private static void sheetIsNew() {
        ThreadBank bank = ready(0, 0, 1, 10);
        bank.sheet(1, 0, 3);
        DUE.is("its CELLS are 0: no PAIR", bank.read(1, 0, 0, 1), -20);
        bank.lay(1, 1, 1);
        bank.lay(1, 2, 30);
        DUE.is("the first CELL is 0", bank.read(1, 0, 0, 1), 1);
        DUE.is("PLACE", bank.thread(0, 0), 0);
        bank.sheet(1, 2, 3);
        bank.read(1, 0, 0, 1);
        DUE.is("the lane is new", bank.torn(), CAST);
        // A shorter row between two long ones leaves none of the old CELLS.
        ThreadBank again = ready(2, 0, 1, 10, 1, 1, 11);
        again.sheet(1, 2, 2);
        again.sheet(1, 2, 6);
        DUE.is("all are 0", again.read(1, 2, 3, 1), -20);
        again.lay(1, 4, 1);
        DUE.is("the KNOT too", again.read(1, 2, 3, 1), -20);
    }

    // ---- 38: lay

    private static ThreadBank ready(int lane, int... cells) {
        ThreadBank bank = Due.told("plain;plain;");
        bank.sheet(1, lane, cells.length);
        for (int i = 0; i < cells.length; i++) {
            bank.lay(1, i, cells[i]);
        }
        return bank;
    }

    private static ThreadBank allSheets(int n) {
        ThreadBank bank = new ThreadBank();
        for (int k = 0; k < 4; k++) {
            bank.sheet(k, k % 3, n);
        }
        return bank;
    }

    private static void layBounds() {
        DUE.takes("lay(k, 0, 1)", Due.from(0, 3), n -> allSheets(1).lay(n, 0, 1));
        DUE.takes("lay(k, 0, 1) on nothing", Due.from(0, 3), n -> new ThreadBank().lay(n, 0, 1));
        DUE.takes("lay(k, -1, 1)", Due.from(0, 3), n -> allSheets(1).lay(n, -1, 1));
        DUE.takes("lay(0, 0, v)", n -> true, n -> allSheets(1).lay(0, 0, n));
    }

    private static void layNullBeforeIndex() {
        ThreadBank bank = new ThreadBank();
        for (int i : new int[] {Integer.MIN_VALUE, -1, 0, 39, 40, Integer.MAX_VALUE}) {
            DUE.is("nothing, CELL " + i, bank.lay(2, i, 1), -11);
        }
        bank.sheet(2, 0, 0);
        for (int i : new int[] {Integer.MIN_VALUE, -1, 0, 39, 40, Integer.MAX_VALUE}) {
            DUE.is("a row of none, CELL " + i, bank.lay(2, i, 1), -12);
        }
    }

    private static void layAtEachEnd() {
        for (int size = 1; size <= MOST_CELLS; size++) {
            ThreadBank bank = allSheets(size);
            for (int k = 0; k < 4; k++) {
                DUE.is("ahead of the first", bank.lay(k, -1, 1), -12);
                DUE.is("the first", bank.lay(k, 0, 1), 1);
                DUE.is("the last of " + size, bank.lay(k, size - 1, 1), 1);
                DUE.is("behind the last", bank.lay(k, size, 1), -12);
                DUE.is("far behind", bank.lay(k, Integer.MAX_VALUE, 1), -12);
                DUE.is("far ahead", bank.lay(k, Integer.MIN_VALUE, 1), -12);
            }
        }
    }

    /** A KNOT of 99 and of 10, by v of which just the lowest bits tell it, in each lane. */
    private static void layLowestBits() {
        int[] knots = {10, 99, 9, 100, 99 + 256, 99 - 256, 10 + 65536, 10 - 65536, 99 + (1 << 31), 127, 128, 255,
            256 + 9, 266, -246, 65535, 65546, 0x7fff0063, 0x12345663};
        for (int v : knots) {
            for (int lane = 0; lane < 3; lane++) {
                int cell = lane == 0 ? (byte) v : lane == 1 ? (short) v : v;
                ThreadBank bank = ready(lane, 0, 1, v);
                boolean good = cell >= 10 && cell <= 99;
                DUE.is("lay of " + v + " in lane " + lane, bank.read(1, lane, 0, 1), good ? 1 : -20);
                DUE.is("KNOT", bank.thread(0, 2), good ? cell : Due.BAD);
            }
        }
        // PLACE and PAIR below 0 as BYTES and SHORTS are.
        DUE.is("PLACE 128 as a BYTE", ready(0, 128, 1, 10).read(1, 0, 0, 1), -20);
        DUE.is("PLACE 256 as a BYTE", ready(0, 256, 1, 10).read(1, 0, 0, 1), 1);
        DUE.is("PLACE 256 as a SHORT", ready(1, 256, 1, 10).read(1, 1, 0, 1), -20);
        DUE.is("PAIR 65537 as a SHORT", ready(1, 0, 65537, 10).read(1, 1, 0, 1), 1);
        DUE.is("PAIR 65537 as an INT", ready(2, 0, 65537, 10).read(1, 2, 0, 1), -20);
    }

    // ---- 39: read

    private static void readBounds() {
        DUE.takes("read(k, 0, 0, 1)", Due.from(0, 3), n -> new ThreadBank().read(n, 0, 0, 1));
        DUE.takes("read(0, lane, 0, 1)", Due.from(0, 2), n -> new ThreadBank().read(0, n, 0, 1));
        DUE.takes("read(0, 0, 0, n)", Due.from(0, 10), n -> new ThreadBank().read(0, 0, 0, n));
        DUE.takes("read(1, 0, 0, n) of a row", Due.from(0, 10), n -> ready(0, 0, 1, 10).read(1, 0, 0, n));
        DUE.takes("read(1, 0, f, 1)", n -> true, n -> ready(0, 0, 1, 10).read(1, 0, n, 1));
    }

    private static void readIs(String what, ThreadBank bank, int[] asked, int answer, int torn, int threads) {
        DUE.is("read of " + what, bank.read(asked[0], asked[1], asked[2], asked[3]), answer);
        DUE.is("torn of " + what, bank.torn(), torn);
        DUE.is("THREADS of " + what, bank.rule(1), threads);
    }

    private static int[] asked(int lane, int f, int n) {
        return new int[] {1, lane, f, n};
    }

    private static void readNone() {
        readIs("none", ready(0, 0, 1, 10), asked(0, 0, 0), 0, 0, 0);
        readIs("none, beside", ready(0, 0, 1, 10), asked(0, 50, 0), 0, 0, 0);
        readIs("none of a row of none", ready(0), asked(0, 0, 0), 0, 0, 0);
        readIs("none of another lane", ready(0, 0, 1, 10), asked(1, 0, 0), 0, CAST, 0);
        readIs("none of nothing", Due.told("plain;plain;"), asked(0, 0, 0), 0, 0, 0);
    }

    private static void readFromEachCell() {
        for (int lane = 0; lane < 3; lane++) {
            for (int f = -4; f <= 8; f++) {
                // CELLS 2 to 4 are the one tying that is good.
                ThreadBank bank = ready(lane, 77, 77, 11, 1, 55);
                boolean whole = f >= 0 && f <= 2;
                readIs("CELL " + f, bank, asked(lane, f, 1), !whole ? 0 : f == 2 ? 1 : -20, whole ? 0 : INDEX,
                    f == 2 ? 1 : 0);
            }
        }
        ThreadBank last = Due.told("plain;plain;");
        last.sheet(1, 1, MOST_CELLS);
        last.lay(1, 37, 4);
        last.lay(1, 38, 10);
        last.lay(1, 39, 99);
        readIs("the last three CELLS", last, asked(1, 37, 1), 1, 0, 1);
        readIs("the last two", last, asked(1, 38, 1), 0, INDEX, 1);
        DUE.is("PLACE", last.thread(0, 0), 4);
        DUE.is("PAIR", last.thread(0, 1), 10);
        DUE.is("KNOT", last.thread(0, 2), 99);
    }

    private static void readFromFarAway() {
        int[] far = {Integer.MIN_VALUE, Integer.MIN_VALUE + 1, -3, -2, -1, 3, Integer.MAX_VALUE - 30,
            Integer.MAX_VALUE - 3, Integer.MAX_VALUE - 2, Integer.MAX_VALUE - 1, Integer.MAX_VALUE};
        for (int f : far) {
            for (int n : new int[] {1, 2, 10}) {
                readIs("CELL " + f, ready(0, 0, 1, 10), asked(0, f, n), 0, INDEX, 0);
            }
        }
    }

    private static void readOfAnotherLane() {
        for (int of = 0; of < 3; of++) {
            for (int lane = 0; lane < 3; lane++) {
                boolean same = of == lane;
                readIs(of + " as " + lane, ready(of, 0, 1, 10), asked(lane, 0, 1), same ? 1 : 0, same ? 0 : CAST,
                    same ? 1 : 0);
                readIs("beside, " + of + " as " + lane, ready(of, 0, 1, 10), asked(lane, -1, 1), 0,
                    same ? INDEX : CAST, 0);
                readIs("a row of none, " + of + " as " + lane, ready(of), asked(lane, 0, 1), 0, same ? INDEX : CAST, 0);
                readIs("what tie() refuses, " + of + " as " + lane, ready(of, 9, 1, 10), asked(lane, 0, 1),
                    same ? -20 : 0, same ? 0 : CAST, 0);
            }
        }
    }

    private static void readOfNothing() {
        for (int lane = 0; lane < 3; lane++) {
            for (int f : new int[] {-1, 0, 40}) {
                readIs("nothing", Due.told("plain;plain;"), asked(lane, f, 1), 0, NULL, 0);
            }
        }
    }

    private static void readTornBehindWholeOnes() {
        int[] cells = {0, 1, 10, 1, 1, 11, 2, 1, 12, 3, 1, 13};
        for (int size = 0; size <= 12; size++) {
            ThreadBank bank = ready(0, java.util.Arrays.copyOf(cells, size));
            readIs(size + " CELLS", bank, asked(0, 0, 4), size / 3, size == 12 ? 0 : INDEX, size / 3);
            for (int t = 0; t < size / 3; t++) {
                DUE.is("KNOT", bank.thread(t, 2), 10 + t);
            }
        }
        for (int n = 0; n <= 10; n++) {
            readIs(n + " of 4", ready(2, cells), asked(2, 0, n), Math.min(n, 4), n <= 4 ? 0 : INDEX, Math.min(n, 4));
        }
    }

    /** Ten tyings that are good, on two old hands. */
    private static ThreadBank tenOnSheet() {
        ThreadBank bank = Due.told("old;old;");
        bank.sheet(1, 2, MOST_CELLS);
        for (int i = 0; i < 10; i++) {
            bank.lay(1, 3 * i, i % 3 + 10 * (i % 2));
            bank.lay(1, 3 * i + 1, 1);
            bank.lay(1, 3 * i + 2, 10 + i);
        }
        return bank;
    }

    private static void readRefusedAtEach() {
        for (int i = 0; i < 10; i++) {
            ThreadBank bank = tenOnSheet();
            bank.lay(1, 3 * i + 2, 9);
            readIs("a bad KNOT at " + i, bank, asked(2, 0, 10), -20 - i, 0, 0);
            readIs("those ahead of " + i, bank, asked(2, 0, i), i, 0, i);
        }
    }

    private static void readRefusedInWhicheverWay() {
        int[][] bad = {{5, 1, 10}, {-1, 1, 10}, {20, 1, 10}, {0, 0, 10}, {0, 2, 10}, {0, 11, 10}, {0, 1, 9},
            {0, 1, 100}, {3, 1, 10}, {Integer.MIN_VALUE, 1, 10}, {0, Integer.MAX_VALUE, 10}};
        for (int[] tying : bad) {
            ThreadBank bank = Due.told("left;plain;");
            bank.sheet(1, 2, 6);
            for (int i = 0; i < 6; i++) {
                bank.lay(1, i, i < 3 ? new int[] {10, 1, 10}[i] : tying[i - 3]);
            }
            readIs("a second one that is refused", bank, asked(2, 0, 2), -21, 0, 0);
        }
        readIs("no ROOM by those ahead", ready(0, 0, 1, 10, 0, 1, 11, 0, 1, 12), asked(0, 0, 3), -22, 0, 0);
        ThreadBank nine = tenOnSheet();
        nine.read(1, 2, 0, 9);
        readIs("the 10th and the 11th THREAD", nine, new int[] {1, 2, 24, 2}, -21, 0, 9);
        readIs("the 10th THREAD", nine, asked(2, 27, 1), 1, 0, 10);
        readIs("the 11th THREAD", nine, asked(2, 0, 1), -20, 0, 10);
    }

    private static void readTheFirstMet() {
        readIs("refused ahead of the end", ready(0, 0, 1, 10, 9, 9, 9, 0), asked(0, 0, 3), -21, 0, 0);
        readIs("the end ahead of what would be refused", ready(0, 0, 1, 10, 9, 9), asked(0, 0, 2), 1, INDEX, 1);
        readIs("refused twice", ready(0, 9, 9, 9, 9, 9, 9), asked(0, 0, 2), -20, 0, 0);
        ThreadBank bank = ready(0, 0, 1, 10, 9, 9, 9);
        DUE.is("n is BAD ahead of all", bank.read(1, 0, 0, 11), Due.BAD);
        DUE.is("THREADS", bank.rule(1), 0);
    }

    private static void readUpToTen() {
        readIs("ten", tenOnSheet(), asked(2, 0, 10), 10, 0, 10);
        ThreadBank eleven = tenOnSheet();
        DUE.is("eleven", eleven.read(1, 2, 0, 11), Due.BAD);
        DUE.is("below none", eleven.read(1, 2, 0, -1), Due.BAD);
        DUE.is("THREADS", eleven.rule(1), 0);
        // 40 CELLS are 13 tyings and one CELL: the 14th is never asked.
        readIs("the 13th is all 0", tenOnSheet(), asked(2, 36, 1), -20, 0, 0);
        readIs("the 14th is not whole", tenOnSheet(), asked(2, 39, 1), 0, INDEX, 0);
    }

    // ---- 40: torn

    private static void tornAtFirst() {
        DUE.is("a new object", new ThreadBank().torn(), 0);
        ThreadBank bank = new ThreadBank();
        bank.read(4, 0, 0, 1);
        bank.read(0, 3, 0, 1);
        bank.read(0, 0, 0, 11);
        DUE.is("reads that were BAD", bank.torn(), 0);
    }

    private static void tornOfTheLatestThatEnded() {
        ThreadBank bank = ready(0, 0, 1, 10, 9, 9, 9);
        int[][] faulty = {{0, 0, 0, 1, NULL}, {1, 0, 4, 1, INDEX}, {1, 1, 0, 1, CAST}};
        for (int[] f : faulty) {
            DUE.is("a FAULT", bank.read(f[0], f[1], f[2], f[3]), 0);
            DUE.is("torn", bank.torn(), f[4]);
            DUE.is("refused by tie()", bank.read(1, 0, 3, 1), -20);
            DUE.is("torn stays", bank.torn(), f[4]);
            DUE.is("refused behind a whole one", bank.read(1, 0, 0, 2), -21);
            DUE.is("torn stays", bank.torn(), f[4]);
            DUE.is("BAD", bank.read(1, 0, 0, -1), Due.BAD);
            DUE.is("torn stays", bank.torn(), f[4]);
            DUE.is("none asked", bank.read(1, 0, 0, 0), 0);
            DUE.is("torn is 0", bank.torn(), 0);
        }
    }

    private static void tornOfReadsAlone() {
        ThreadBank bank = ready(0, 0, 1, 10);
        bank.read(0, 0, 0, 1);
        bank.sheet(2, 0, -1);
        bank.lay(1, 9, 9);
        bank.tie(0, 1, 10);
        bank.keep(0);
        bank.back(0);
        bank.text();
        Due.tell(bank, "?");
        DUE.is("NULL still", bank.torn(), NULL);
        ThreadBank none = new ThreadBank();
        none.sheet(0, 0, -1);
        none.lay(0, 0, 0);
        DUE.is("FAULTS of sheet() and lay()", none.torn(), 0);
    }

    // ---- 41: count

    private static void countBounds() {
        DUE.takes("count(what)", Due.from(0, 5), n -> new ThreadBank().count(n));
        DUE.takes("count(what) of much", Due.from(0, 5), n -> full().count(n));
    }

    private static void countNone() {
        ThreadBank bank = new ThreadBank();
        int[] want = {0, 0, 0, 0, 0, Due.NONE};
        for (int what = 0; what <= 5; what++) {
            DUE.is("count(" + what + ")", bank.count(what), want[what]);
        }
        bank.sheet(0, 0, 0);
        DUE.is("a row of none", bank.count(5), 0);
        ThreadBank other = new ThreadBank();
        for (int k = 1; k < 4; k++) {
            other.sheet(k, 0, 5);
        }
        DUE.is("of SHEET 0 alone", other.count(5), Due.NONE);
    }

    private static void countMost() {
        ThreadBank bank = full();
        bank.keep(0);
        bank.keep(1);
        bank.sheet(0, 2, MOST_CELLS);
        for (int i = 0; i < 160; i++) {
            bank.feed(' ');
        }
        int[] want = {10, 0, 6, 2, 160, MOST_CELLS};
        for (int what = 0; what <= 5; what++) {
            DUE.is("count(" + what + ")", bank.count(what), want[what]);
        }
        ThreadBank alike = Due.told("old;old;tie 0 1 10;");
        for (int t = 1; t < 10; t++) {
            alike.tie(new int[] {10, 11, 12}[t % 3], 1, 10);
        }
        DUE.is("alike ones as one", alike.count(0), 1);
        DUE.is("nine COPIES", alike.count(1), 9);
    }
}
