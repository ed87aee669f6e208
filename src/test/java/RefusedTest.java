import java.util.function.Supplier;

/** What is refused changes nothing, and so does what is only asked: two banks alike, one of which was called. */
public final class RefusedTest {
    private static final Due DUE = new Due("RefusedTest");
    private static final int MIN = Integer.MIN_VALUE;
    private static final int MAX = Integer.MAX_VALUE;

    /** A call that is refused, or only asks. */
    private interface Call {
        long on(ThreadBank bank);
    }

    private final String name;
    private final Supplier<ThreadBank> made;
    private final String untouched;
    private final String untouchedWithin;

    private RefusedTest(String name, Supplier<ThreadBank> made) {
        this.name = name;
        this.made = made;
        untouched = Due.all(made.get());
        untouchedWithin = Due.heldWithin(made.get());
    }

    public static void main(String[] args) {
        RefusedTest empty = new RefusedTest("empty", ThreadBank::new);
        RefusedTest middling = new RefusedTest("middling", RefusedTest::middling);
        RefusedTest full = new RefusedTest("full", RefusedTest::full);
        for (RefusedTest each : new RefusedTest[] {empty, middling, full}) {
            each.badWhateverThereIs();
            each.badNumbersOfHands();
            each.badSheetsAndImages();
            each.askedOnly();
        }
        empty.refusedWhereNothingIs();
        middling.refusedTextCalls();
        middling.refusedChanges();
        middling.refusedSeeing();
        middling.refusedSheets();
        full.refusedWhereAllIsFull();
        DUE.end();
    }

    /** Three CLERKS, some THREADS, one IMAGE, a TAPE with a good text, SHEETS of each lane and one of nothing. */
    private static ThreadBank middling() {
        ThreadBank bank = Due.told("plain;left;founder;day 4;tie 0 1 52;tie 0 1 39;tie 10 1 52;tie 20 12 31;");
        bank.see(1, 5);
        bank.keep(1);
        bank.cut(1);
        bank.see(12, 3);
        bank.tie(0, 20, 77);
        bank.day(6);
        laySheet(bank, 1, 0, 11, 1, 10, 11, 1, 11, 11, 1, 12);
        laySheet(bank, 2, 1, 0, 1, 10);
        laySheet(bank, 3, 2, 10, 10, 99, 14, 1, 98, 7);
        bank.read(2, 0, 0, 1);
        Due.tell(bank, "day 10");
        Due.feedAll(bank, "old;old;day 7;tie 0 1 45;");
        return bank;
    }

    /** All is as full as may be. */
    private static ThreadBank full() {
        ThreadBank bank = Due.told("old;founder;founder;plain;day 9;");
        int[] places = {0, 0, 0, 10, 11, 12, 13, 14, 20, 30};
        for (int t = 0; t < 10; t++) {
            bank.tie(places[t], t % 2 == 0 ? 1 : 10, 19 + 8 * t);
        }
        for (int i = 0; i < 6; i++) {
            bank.see(i % 2 == 0 ? 1 : 10, i % 2 == 0 ? 26 : 30);
        }
        bank.keep(0);
        bank.keep(1);
        for (int k = 0; k < 4; k++) {
            bank.sheet(k, k % 3, 40);
            for (int i = 0; i < 39; i++) {
                bank.lay(k, i, new int[] {k % 3, 1 + k % 2 * 9, 10 + i + 10 * k}[i % 3]);
            }
        }
        Due.feedAll(bank, "plain;plain;tie 0 1 10;");
        Due.feedAll(bank, " ".repeat(160 - bank.count(4)));
        return bank;
    }

    private static void laySheet(ThreadBank bank, int k, int lane, int... cells) {
        bank.sheet(k, lane, cells.length);
        for (int i = 0; i < cells.length; i++) {
            bank.lay(k, i, cells[i]);
        }
    }

    private void refused(String call, long answer, Call made) {
        DUE.is(name + ": " + call, sameBehind(call, made), answer);
    }

    private void bad(String call, Call made) {
        refused(call, Due.BAD, made);
    }

    private long sameBehind(String call, Call asked) {
        ThreadBank bank = made.get();
        long answer = asked.on(bank);
        DUE.is(name + ": what can be asked behind " + call, Due.all(bank), untouched);
        DUE.is(name + ": what there is behind " + call, Due.heldWithin(bank), untouchedWithin);
        return answer;
    }

    // ---- BAD in whichever state

    private void badWhateverThereIs() {
        for (int c : new int[] {-1, 128, MIN, MAX}) {
            bad("feed(" + c + ")", b -> b.feed(c));
        }
        for (int n : new int[] {-1, 161, MIN, MAX}) {
            bad("end(" + n + ")", b -> b.end(n));
            bad("day(" + n + ")", b -> b.day(n));
            bad("rule(" + n + ")", b -> b.rule(n));
            bad("sum(" + n + ")", b -> b.sum(n));
            bad("clear(" + n + ")", b -> b.clear(n));
            bad("spare(" + n + ")", b -> b.spare(n));
            bad("quarrel(" + n + ")", b -> b.quarrel(n));
            bad("forget(" + n + ")", b -> b.forget(n));
            bad("fits(" + n + ")", b -> b.fits(n));
            bad("count(" + n + ")", b -> b.count(n));
            bad("slips(" + n + ", 0)", b -> b.slips(n, 0));
            bad("slips(5, " + n + ")", b -> b.slips(5, n));
            bad("none(" + n + ", 0)", b -> b.none(n, 0));
            bad("none(5, " + n + ")", b -> b.none(5, n));
            bad("kept(" + n + ", 0, 0)", b -> b.kept(n, 0, 0));
            bad("drift(1, " + n + ", 5)", b -> b.drift(1, n, 5));
            bad("drift(1, 5, " + n + ")", b -> b.drift(1, 5, n));
        }
        bad("day(10)", b -> b.day(10));
        bad("ring(2)", b -> b.ring(2));
        bad("ring(9)", b -> b.ring(9));
        bad("ring(-1)", b -> b.ring(-1));
        bad("forget(7)", b -> b.forget(7));
        bad("drift(1, 0, 5)", b -> b.drift(1, 0, 5));
        bad("drift(1, 21, 5)", b -> b.drift(1, 21, 5));
        bad("drift(1, 5, 11)", b -> b.drift(1, 5, 11));
    }

    private void badNumbersOfHands() {
        for (int n : new int[] {-1, 55, MIN, MAX}) {
            bad("clerk(" + n + ", 0)", b -> b.clerk(n, 0));
            bad("clerk(0, " + n + ")", b -> b.clerk(0, n));
            bad("finger(" + n + ", 0)", b -> b.finger(n, 0));
            bad("finger(0, " + n + ")", b -> b.finger(0, n));
            bad("thread(" + n + ", 0)", b -> b.thread(n, 0));
            bad("thread(0, " + n + ")", b -> b.thread(0, n));
            bad("tie(" + n + ", 1, 10)", b -> b.tie(n, 1, 10));
            bad("tie(0, " + n + ", 10)", b -> b.tie(0, n, 10));
            bad("cut(" + n + ")", b -> b.cut(n));
            bad("move(" + n + ", 0)", b -> b.move(n, 0));
            bad("move(0, " + n + ")", b -> b.move(0, n));
            bad("lose(" + n + ")", b -> b.lose(n));
            bad("teach(" + n + ", 0)", b -> b.teach(n, 0));
            bad("teach(0, " + n + ")", b -> b.teach(0, n));
            bad("owed(" + n + ", 0)", b -> b.owed(n, 0));
            bad("owed(1, " + n + ")", b -> b.owed(1, n));
            bad("left(" + n + ")", b -> b.left(n));
            bad("risk(" + n + ")", b -> b.risk(n));
            bad("kept(5, " + n + ", 0)", b -> b.kept(5, n, 0));
            bad("kept(5, 0, " + n + ")", b -> b.kept(5, 0, n));
            bad("see(" + n + ", 5)", b -> b.see(n, 5));
        }
        for (int n : new int[] {-1, 100, MIN, MAX}) {
            bad("see(1, " + n + ")", b -> b.see(1, n));
            bad("tie(0, 1, " + n + ")", b -> b.tie(0, 1, n));
        }
        bad("tie(0, 1, 9)", b -> b.tie(0, 1, 9));
        bad("tie(0, 11, 10)", b -> b.tie(0, 11, 10));
        bad("tie(5, 1, 10)", b -> b.tie(5, 1, 10));
        bad("teach(0, 4)", b -> b.teach(0, 4));
    }

    private void badSheetsAndImages() {
        for (int k : new int[] {-1, 2, MIN, MAX}) {
            bad("keep(" + k + ")", b -> b.keep(k));
            bad("back(" + k + ")", b -> b.back(k));
        }
        for (int k : new int[] {-1, 4, MIN, MAX}) {
            bad("sheet(" + k + ", 0, 5)", b -> b.sheet(k, 0, 5));
            bad("sheet(0, " + k + ", 5)", b -> b.sheet(0, k, 5));
            bad("sheet(" + k + ", 0, -1)", b -> b.sheet(k, 0, -1));
            bad("lay(" + k + ", 0, 5)", b -> b.lay(k, 0, 5));
            bad("read(" + k + ", 0, 0, 1)", b -> b.read(k, 0, 0, 1));
            bad("read(0, " + k + ", 0, 1)", b -> b.read(0, k, 0, 1));
        }
        bad("sheet(0, 3, 5)", b -> b.sheet(0, 3, 5));
        bad("sheet(0, 0, 41)", b -> b.sheet(0, 0, 41));
        bad("sheet(0, 0, MAX)", b -> b.sheet(0, 0, MAX));
        bad("read(0, 3, 0, 1)", b -> b.read(0, 3, 0, 1));
        bad("read(0, 0, 0, 11)", b -> b.read(0, 0, 0, 11));
        bad("read(0, 0, 0, -1)", b -> b.read(0, 0, 0, -1));
        for (int k = 0; k < 4; k++) {
            int sheet = k;
            refused("sheet(" + k + ", 1, -1)", -14, b -> b.sheet(sheet, 1, -1));
            refused("sheet(" + k + ", 2, MIN)", -14, b -> b.sheet(sheet, 2, MIN));
        }
    }

    // ---- what only asks

    private void askedOnly() {
        for (int n = 0; n < 6; n++) {
            int what = n;
            sameBehind("asking " + n, b -> b.rule(what) + b.clerk(0, what) + b.finger(0, what) + b.thread(0, what)
                + b.owed(1, what) + b.sum(what) + b.ring(what) + b.ring(10 + what) + b.clear(what) + b.left(12)
                + b.risk(what) + b.spare(what) + b.quarrel(what) + b.fits(what) + b.count(what));
            sameBehind("laundry by " + n, b -> b.kept(what, 0, 0) + b.kept(what, 0, 1) + b.slips(what, 0)
                + b.none(what, 1) + b.drift(what, 20, what + 1));
        }
        sameBehind("asking the rest", b -> b.fault() + b.torn() + b.pays() + b.fewest() + b.place() + b.copies());
    }

    // ---- refused by what there is

    private void refusedWhereNothingIs() {
        bad("end(1)", b -> b.end(1));
        bad("clerk(0, 0)", b -> b.clerk(0, 0));
        bad("finger(0, 0)", b -> b.finger(0, 0));
        bad("thread(0, 0)", b -> b.thread(0, 0));
        bad("tie(0, 1, 10)", b -> b.tie(0, 1, 10));
        bad("cut(0)", b -> b.cut(0));
        bad("move(0, 0)", b -> b.move(0, 0));
        bad("lose(0)", b -> b.lose(0));
        bad("teach(0, 0)", b -> b.teach(0, 0));
        bad("owed(1, 0)", b -> b.owed(1, 0));
        bad("left(1)", b -> b.left(1));
        bad("risk(0)", b -> b.risk(0));
        bad("kept(5, 0, 0)", b -> b.kept(5, 0, 0));
        bad("see(1, 0)", b -> b.see(1, 0));
        bad("forget(1)", b -> b.forget(1));
        refused("ring(0)", Due.NONE, b -> b.ring(0));
        refused("ring(10)", Due.NONE, b -> b.ring(10));
        refused("place()", Due.NONE, b -> b.place());
        refused("quarrel(1)", Due.NONE, b -> b.quarrel(1));
        refused("count(5)", Due.NONE, b -> b.count(5));
        refused("back(0)", Due.STATE, b -> b.back(0));
        refused("back(1)", Due.STATE, b -> b.back(1));
        for (int k = 0; k < 4; k++) {
            int sheet = k;
            refused("lay(" + k + ", 0, 5)", -11, b -> b.lay(sheet, 0, 5));
        }
        refused("read(0, 0, 0, 0)", 0, b -> b.read(0, 0, 0, 0));
        refused("text()", 0, b -> b.text());
    }

    private void refusedTextCalls() {
        bad("end(26)", b -> b.end(26));
        bad("clerk(3, 0)", b -> b.clerk(3, 0));
        bad("clerk(0, 4)", b -> b.clerk(0, 4));
        bad("finger(30, 0)", b -> b.finger(30, 0));
        bad("finger(0, 2)", b -> b.finger(0, 2));
        bad("thread(4, 0)", b -> b.thread(4, 0));
        bad("thread(0, 4)", b -> b.thread(0, 4));
        refused("end(25)", 25, b -> b.end(25));
    }

    private void refusedChanges() {
        bad("tie(30, 1, 10)", b -> b.tie(30, 1, 10));
        bad("tie(0, 3, 10)", b -> b.tie(0, 3, 10));
        bad("tie(0, 30, 10)", b -> b.tie(0, 30, 10));
        refused("tie(0, 1, 10)", Due.FULL, b -> b.tie(0, 1, 10));
        refused("tie(13, 1, 10)", Due.FULL, b -> b.tie(13, 1, 10));
        refused("tie(20, 1, 10)", Due.FULL, b -> b.tie(20, 1, 10));
        bad("cut(4)", b -> b.cut(4));
        bad("move(4, 1)", b -> b.move(4, 1));
        bad("move(0, 30)", b -> b.move(0, 30));
        refused("move(0, 0)", Due.STATE, b -> b.move(0, 0));
        refused("move(2, 20)", Due.STATE, b -> b.move(2, 20));
        refused("move(1, 0)", Due.FULL, b -> b.move(1, 0));
        refused("move(1, 13)", Due.FULL, b -> b.move(1, 13));
        refused("move(1, 20)", Due.FULL, b -> b.move(1, 20));
        bad("lose(3)", b -> b.lose(3));
        bad("teach(3, 0)", b -> b.teach(3, 0));
        refused("teach(0, 3)", Due.FULL, b -> b.teach(0, 3));
        bad("owed(3, 0)", b -> b.owed(3, 0));
        bad("left(3)", b -> b.left(3));
        bad("risk(3)", b -> b.risk(3));
        bad("kept(5, 4, 0)", b -> b.kept(5, 4, 0));
        refused("quarrel(1)", Due.NONE, b -> b.quarrel(1));
        refused("back(0)", Due.STATE, b -> b.back(0));
        refused("count(5)", Due.NONE, b -> b.count(5));
    }

    private void refusedSeeing() {
        bad("see(3, 5)", b -> b.see(3, 5));
        bad("see(1, 100)", b -> b.see(1, 100));
        bad("forget(3)", b -> b.forget(3));
        refused("forget(2)", 2, b -> b.forget(2));
    }

    private void refusedSheets() {
        refused("lay(0, 0, 5)", -11, b -> b.lay(0, 0, 5));
        refused("lay(1, 9, 5)", -12, b -> b.lay(1, 9, 5));
        refused("lay(1, -1, 5)", -12, b -> b.lay(1, -1, 5));
        refused("lay(2, 3, 5)", -12, b -> b.lay(2, 3, 5));
        refused("lay(3, MAX, 5)", -12, b -> b.lay(3, MAX, 5));
        refused("the third has no ROOM", -22, b -> b.read(1, 0, 0, 3));
        refused("the first has no ROOM", -20, b -> b.read(2, 1, 0, 1));
        refused("the first has no ROOM, the second is torn", -20, b -> b.read(2, 1, 0, 2));
        refused("no PLACE", -20, b -> b.read(3, 2, 1, 1));
        refused("no PLACE, the next is torn", -20, b -> b.read(3, 2, 2, 2));
    }

    private void refusedWhereAllIsFull() {
        refused("feed(32)", Due.FULL, b -> b.feed(32));
        refused("feed(0)", Due.FULL, b -> b.feed(0));
        refused("tie(1, 1, 10)", Due.FULL, b -> b.tie(1, 1, 10));
        refused("tie(34, 1, 10)", Due.FULL, b -> b.tie(34, 1, 10));
        refused("move(3, 0)", Due.FULL, b -> b.move(3, 0));
        refused("move(9, 10)", Due.FULL, b -> b.move(9, 10));
        for (int kind : new int[] {0, 1, 3}) {
            refused("teach(0, " + kind + ")", Due.FULL, b -> b.teach(0, kind));
        }
        refused("teach(1, 1)", Due.FULL, b -> b.teach(1, 1));
        refused("teach(1, 2)", Due.FULL, b -> b.teach(1, 2));
        refused("see(1, 0)", Due.FULL, b -> b.see(1, 0));
        refused("copies()", Due.NONE, b -> b.copies());
        for (int k = 0; k < 4; k++) {
            int sheet = k;
            refused("read of SHEET " + k, -20, b -> b.read(sheet, sheet % 3, 0, 10));
            refused("lay(" + k + ", 40, 5)", -12, b -> b.lay(sheet, 40, 5));
            bad("sheet(" + k + ", 0, 41)", b -> b.sheet(sheet, 0, 41));
        }
    }
}
