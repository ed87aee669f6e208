/** Promises 1 to 9: a new object, THE TAPE, the text and its FAULTS, what can be asked of it. */
public final class TextTest {
    private static final Due DUE = new Due("TextTest");

    public static void main(String[] args) {
        newObject();
        feed();
        end();
        textIsTaken();
        textTakesAllAway();
        faultsOfTokens();
        faultsOfGrammar();
        faultsOfBounds();
        faultsOfNumberOf();
        faultsBehindAll();
        faultStaysTillNextText();
        rule();
        clerk();
        finger();
        thread();
        DUE.end();
    }

    private static void newObject() {
        ThreadBank bank = new ThreadBank();
        for (int what = 0; what < 5; what++) {
            DUE.is("new rule(" + what + ")", bank.rule(what), 0);
        }
        DUE.is("new fault()", bank.fault(), 0);
        DUE.is("new torn()", bank.torn(), 0);
        DUE.is("new count(4)", bank.count(4), 0);
        DUE.is("new count(5)", bank.count(5), Due.NONE);
        DUE.is("new count(3)", bank.count(3), 0);
        for (int k = 0; k < 4; k++) {
            DUE.is("new lay", bank.lay(k, 0, 1), -11);
        }
        DUE.is("new clerk", bank.clerk(0, 0), Due.BAD);
        DUE.is("new place", bank.place(), Due.NONE);
        DUE.is("new pays", bank.pays(), 0);
        DUE.is("new fewest", bank.fewest(), 0);
        DUE.is("new copies", bank.copies(), 0);
        DUE.is("new spare", bank.spare(0), 0);
        DUE.is("new fits", bank.fits(0), 1);
        DUE.is("new back", bank.back(0), Due.STATE);
    }

    private static void feed() {
        ThreadBank bank = new ThreadBank();
        DUE.is("feed(-1)", bank.feed(-1), Due.BAD);
        DUE.is("feed(128)", bank.feed(128), Due.BAD);
        DUE.is("feed(0)", bank.feed(0), 1);
        DUE.is("feed(127)", bank.feed(127), 2);
        for (int i = 3; i <= 160; i++) {
            DUE.is("feed " + i, bank.feed(32), i);
        }
        DUE.is("feed 161", bank.feed(32), Due.FULL);
        DUE.is("feed 161 bad", bank.feed(128), Due.BAD);
        DUE.is("bytes", bank.count(4), 160);
    }

    private static void end() {
        ThreadBank bank = new ThreadBank();
        Due.feedAll(bank, "plain;x");
        DUE.is("end(-1)", bank.end(-1), Due.BAD);
        DUE.is("end(8)", bank.end(8), Due.BAD);
        DUE.is("end(7)", bank.end(7), 7);
        DUE.is("end(6)", bank.end(6), 7);
        DUE.is("count(4)", bank.count(4), 6);
        DUE.is("text()", bank.text(), 1);
        DUE.is("end(0)", bank.end(0), 0);
        Due.feedAll(bank, "abc");
        DUE.is("end(0) of 3", bank.end(0), 3);
        DUE.is("empty", bank.count(4), 0);
    }

    private static void textIsTaken() {
        ThreadBank bank = new ThreadBank();
        DUE.is("text", Due.tell(bank, "  old ;day07; tie 30 03 99;plain;left;founder ;tie 0 10 10 ; "), 7);
        DUE.is("fault", bank.fault(), 0);
        DUE.is("tape", bank.count(4), 0);
        DUE.is("day", bank.rule(2), 7);
        for (int c = 0; c < 4; c++) {
            DUE.is("kind " + c, bank.clerk(c, 0), new int[] {2, 0, 1, 3}[c]);
        }
        DUE.is("place", bank.thread(0, 0), 30);
        DUE.is("pair", bank.thread(0, 1), 3);
        DUE.is("knot", bank.thread(0, 2), 99);
        DUE.is("place 1", bank.thread(1, 0), 0);
        DUE.is("pair 1", bank.thread(1, 1), 10);
        DUE.is("knot 1", bank.thread(1, 2), 10);
        DUE.is("ties before clerks", Due.tell(bank, "tie 11 1 42 ; plain ; plain ;"), 3);
        DUE.is("day is told anew", bank.rule(2), 0);
        DUE.is("the last day", Due.tell(bank, "day 9;"), 1);
        DUE.is("rule(2)", bank.rule(2), 9);
    }

    private static void textTakesAllAway() {
        ThreadBank bank = Due.told("plain;old;day 3;tie 0 1 10;");
        bank.see(1, 5);
        bank.keep(0);
        bank.keep(1);
        bank.sheet(2, 0, 3);
        String before = Due.held(bank);
        DUE.is("refused", Due.tell(bank, "plain;founder;plan;"), -24);
        DUE.is("its fault", bank.fault(), 2);
        DUE.is("tape empty", bank.count(4), 0);
        DUE.is("what was told stays", Due.held(bank), before);
        DUE.is("seen stays", bank.count(2), 1);
        DUE.is("images stay", bank.count(3), 2);
        DUE.is("empty text", bank.text(), 0);
        DUE.is("no clerks", bank.rule(0), 0);
        DUE.is("no threads", bank.rule(1), 0);
        DUE.is("no day", bank.rule(2), 0);
        DUE.is("nothing seen", bank.count(2), 0);
        DUE.is("images gone", bank.count(3), 0);
        DUE.is("back", bank.back(1), Due.STATE);
        DUE.is("sheets stay", bank.lay(2, 2, 1), 1);
    }

    private static void refused(String text, int kind, int place) {
        ThreadBank bank = new ThreadBank();
        DUE.is("text of '" + text + "'", Due.tell(bank, text), -10 - place);
        DUE.is("fault of '" + text + "'", bank.fault(), kind);
        DUE.is("clerks of '" + text + "'", bank.rule(0), 0);
    }

    private static void faultsOfTokens() {
        refused("Plain;", 1, 0);
        refused("  \t", 1, 2);
        refused("plain;left-;", 1, 10);
        refused("plain 123;", 1, 6);
        refused("day 123;", 1, 4);
        refused("tie 0 1 0042;", 1, 8);
        refused("000", 1, 0);
        refused("{", 1, 0);
        refused("`", 1, 0);
        refused("day /;", 1, 4);
        refused("day :;", 1, 4);
        refused("plain;\u0000", 1, 6);
    }

    private static void faultsOfGrammar() {
        refused("plains;", 2, 0);
        refused("plai;", 2, 0);
        refused("xlain;", 2, 0);
        refused("lie 0 1 10;", 2, 0);
        refused("plain left;", 2, 6);
        refused("plain 1;", 2, 6);
        refused("plain", 2, 5);
        refused("plain  ", 2, 7);
        refused(";", 2, 0);
        refused("plain;;", 2, 6);
        refused("12", 2, 0);
        refused("day;", 2, 3);
        refused("day x;", 2, 4);
        refused("day 1 2;", 2, 6);
        refused("day", 2, 3);
        refused("day 4", 2, 5);
        refused("daytie 1;", 2, 0);
        refused("tie 0 1 10 10;", 2, 11);
        refused("tie 0 1 10plain;", 2, 10);
        refused("tie", 2, 3);
        refused("tie 0 ", 2, 6);
        refused("tie 0 1", 2, 7);
    }

    private static void faultsOfBounds() {
        refused("day 10;", 3, 4);
        refused("day 10", 3, 4);
        refused("tie 5 1 10;", 3, 4);
        refused("tie 9 1 10;", 3, 4);
        refused("tie 40 1 10;", 3, 4);
        refused("tie 0 0 10;", 3, 6);
        refused("tie 0 11 10;", 3, 6);
        refused("tie 0 4 10;", 3, 6);
        refused("tie 0 40 10;", 3, 6);
        refused("tie 0 1 9;", 3, 8);
        refused("tie 0 1 09 123", 3, 8);
        refused("tie 35 0 0;", 3, 4);
    }

    private static void faultsOfNumberOf() {
        refused("day 1;day 1;", 4, 6);
        refused("day 1;day", 4, 6);
        refused("plain;left;old;founder;plain;", 5, 23);
        refused("plain;left;old;founder;old", 5, 23);
        String tie = "tie 0 1 10;";
        refused(tie.repeat(10) + "tie 0 1 10;", 5, 110);
        refused(tie.repeat(10) + "tie", 5, 110);
        refused(tie.repeat(10) + "tiex", 2, 110);
    }

    private static void faultsBehindAll() {
        refused("tie 0 1 10;plain;", 6, 17);
        refused("tie 10 1 10;plain; ", 6, 19);
        refused("plain;plain;tie 20 1 10;", 6, 24);
        refused("plain;plain;tie 0 12 10;", 6, 24);
        refused("plain;plain;tie 0 21 10;", 6, 24);
        refused("plain;left;tie 13 1 10;", 7, 23);
        refused("plain;old;tie 13 1 10;  ", 7, 24);
        refused("plain;founder;tie 13 1 10;tie 13 1 11;", 7, 38);
        refused("plain;plain;tie 0 1 10;tie 0 1 10;tie 0 1 10;", 7, 45);
        refused("plain;plain;tie 0 1 10;tie 0 1 10;tie 0 1 10;tie 20 1 10;", 6, 57);
        DUE.is("full fingers", Due.told("old;founder;tie 0 1 10;tie 0 1 10;tie 0 1 10;tie 13 1 10;").rule(1), 4);
    }

    private static void faultStaysTillNextText() {
        ThreadBank bank = new ThreadBank();
        Due.tell(bank, "x");
        bank.feed(32);
        bank.end(0);
        DUE.is("fault", bank.fault(), 2);
        DUE.is("text", bank.text(), 0);
        DUE.is("fault of a taken one", bank.fault(), 0);
    }

    private static void rule() {
        ThreadBank bank = Due.told("plain;left;old;founder;day 4;tie 0 1 10;tie 0 1 10;tie 30 1 10;");
        DUE.is("rule(-1)", bank.rule(-1), Due.BAD);
        DUE.is("rule(5)", bank.rule(5), Due.BAD);
        int[] want = {4, 3, 4, 35, 2};
        for (int what = 0; what < 5; what++) {
            DUE.is("rule(" + what + ")", bank.rule(what), want[what]);
        }
    }

    private static void clerk() {
        ThreadBank bank = Due.told("plain;left;old;founder;tie 0 1 50;tie 4 1 50;tie 20 31 70;tie 10 1 50;");
        int[][] want = {{0, 2, 10, 990}, {1, 1, 8, 1017}, {2, 1, 12, 1000}, {3, 0, 5, 993}};
        for (int c = 0; c < 4; c++) {
            for (int what = 0; what < 4; what++) {
                DUE.is("clerk(" + c + ", " + what + ")", bank.clerk(c, what), want[c][what]);
            }
        }
        DUE.is("clerk(4, 0)", bank.clerk(4, 0), Due.BAD);
        DUE.is("clerk(-1, 0)", bank.clerk(-1, 0), Due.BAD);
        DUE.is("clerk(0, 4)", bank.clerk(0, 4), Due.BAD);
        DUE.is("clerk(0, -1)", bank.clerk(0, -1), Due.BAD);
    }

    private static void finger() {
        ThreadBank bank = Due.told("plain;left;old;founder;tie 22 1 50;tie 22 1 50;");
        int[] rooms = {2, 2, 2, 2, 2, 2, 2, 2, 0, 2, 3, 3, 3, 0, 3, 1, 1, 1, 1, 1};
        for (int i = 0; i < 20; i++) {
            int place = i / 5 * 10 + i % 5;
            DUE.is("finger(" + place + ", 0)", bank.finger(place, 0), rooms[i]);
            DUE.is("finger(" + place + ", 1)", bank.finger(place, 1), place == 22 ? 2 : 0);
            DUE.is("finger beside", bank.finger(place + 5, 0), Due.BAD);
        }
        DUE.is("finger(40, 0)", bank.finger(40, 0), Due.BAD);
        DUE.is("finger(-1, 0)", bank.finger(-1, 0), Due.BAD);
        DUE.is("finger(0, 2)", bank.finger(0, 2), Due.BAD);
        DUE.is("finger(0, -1)", bank.finger(0, -1), Due.BAD);
        DUE.is("no such clerk", Due.told("plain;").finger(10, 0), Due.BAD);
    }

    private static void thread() {
        ThreadBank bank = Due.told("plain;left;tie 0 1 50;tie 1 1 50;tie 10 1 50;tie 10 1 51;");
        int[][] want = {{0, 1, 50, 0}, {1, 1, 50, 0}, {10, 1, 50, 1}, {10, 1, 51, 0}};
        for (int t = 0; t < 4; t++) {
            for (int what = 0; what < 4; what++) {
                DUE.is("thread(" + t + ", " + what + ")", bank.thread(t, what), want[t][what]);
            }
        }
        DUE.is("thread(4, 0)", bank.thread(4, 0), Due.BAD);
        DUE.is("thread(-1, 0)", bank.thread(-1, 0), Due.BAD);
        DUE.is("thread(0, 4)", bank.thread(0, 4), Due.BAD);
        DUE.is("thread(0, -1)", bank.thread(0, -1), Due.BAD);
    }
}
