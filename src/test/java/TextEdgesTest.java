/** The edges that promises 1 to 9 name, and those of THE TAPE's TOKENS and FAULTS. */
public final class TextEdgesTest {
    private static final Due DUE = new Due("TextEdgesTest");
    private static final int TAPE = 160;

    public static void main(String[] args) {
        newObjectHoldsNothing();
        newObjectsShareNothing();
        feedTakesBytes();
        feedIsFullBehind160();
        feedIsBadBeforeFull();
        endTakesUpToWhatThereIs();
        endKeepsTheFirstBytes();
        nothingIsReadBehindTheEnd();
        textOfNothing();
        textOfMostLines();
        textOf160Bytes();
        textEmptiesTheTape();
        textRefusedKeepsAll();
        textTakenLeavesNothingBehind();
        faultOfEachKind();
        faultIsOfTheLatestText();
        bytesThatBeginNoToken();
        numbersThatAreTooLong();
        tokensAsLongAsMayBe();
        blanksAreOnlyBlanks();
        tokensThatCanNotStand();
        theEndThatCanNotStand();
        daysOutOfBounds();
        numbersOfTiesOutOfBounds();
        dayForTheSecondTime();
        clerksAndTiesAtMost();
        clerksThatThereAreNot();
        fingersWithMoreThanRoom();
        faultsTheFirstMet();
        ruleBounds();
        ruleEmptyAndFull();
        clerkBounds();
        clerkEmptyAndFull();
        fingerBounds();
        fingerEmptyAndFull();
        threadBounds();
        threadCopyOrNot();
        DUE.end();
    }

    private static String clerks(int n) {
        return "old;".repeat(n);
    }

    /** So many THREADS on four old CLERKS' hands, on FINGERS 0 to 2 of each. */
    private static ThreadBank withThreads(int n) {
        ThreadBank bank = Due.told(clerks(4));
        for (int t = 0; t < n; t++) {
            bank.tie(10 * (t % 4) + t / 4, 1, 10 + t);
        }
        return bank;
    }

    private static void taken(String text, int lines) {
        ThreadBank bank = new ThreadBank();
        DUE.is("text of '" + text + "'", Due.tell(bank, text), lines);
        DUE.is("fault of '" + text + "'", bank.fault(), 0);
    }

    private static void refused(String text, int kind, int place) {
        ThreadBank bank = new ThreadBank();
        DUE.is("text of '" + text + "'", Due.tell(bank, text), -10 - place);
        DUE.is("fault of '" + text + "'", bank.fault(), kind);
    }

    // ---- 1: a new object

    private static void newObjectHoldsNothing() {
        ThreadBank bank = new ThreadBank();
        DUE.is("CLERKS", bank.rule(0), 0);
        DUE.is("THREADS", bank.rule(1), 0);
        DUE.is("DAY", bank.rule(2), 0);
        DUE.is("SEEN", bank.forget(0), 0);
        DUE.is("IMAGES", bank.count(3), 0);
        DUE.is("IMAGE 0", bank.back(0), Due.STATE);
        DUE.is("IMAGE 1", bank.back(1), Due.STATE);
        DUE.is("bytes", bank.end(0), 0);
        DUE.is("fault", bank.fault(), 0);
        DUE.is("torn", bank.torn(), 0);
        for (int k = 0; k < 4; k++) {
            DUE.is("lay on SHEET " + k, bank.lay(k, 0, 0), -11);
            DUE.is("read of SHEET " + k, bank.read(k, 0, 0, 1), 0);
            DUE.is("NULL of SHEET " + k, bank.torn(), 1);
        }
        DUE.is("text", bank.text(), 0);
    }

    private static void newObjectsShareNothing() {
        String fresh = Due.heldWithin(new ThreadBank());
        ThreadBank other = Due.told("plain;old;day 4;tie 0 1 55;");
        other.see(1, 3);
        other.keep(0);
        other.sheet(0, 1, 3);
        other.feed('x');
        DUE.is("a new one beside", Due.heldWithin(new ThreadBank()), fresh);
    }

    // ---- 2, 3: feed, end

    private static void feedTakesBytes() {
        DUE.takes("feed(c)", Due.from(0, 127), n -> new ThreadBank().feed(n));
    }

    private static ThreadBank withBytes(int n) {
        ThreadBank bank = new ThreadBank();
        for (int i = 0; i < n; i++) {
            bank.feed(' ');
        }
        return bank;
    }

    private static void feedIsFullBehind160() {
        ThreadBank bank = withBytes(TAPE - 1);
        DUE.is("the 160th", bank.feed(' '), TAPE);
        DUE.is("the 161st", bank.feed('x'), Due.FULL);
        DUE.is("the 161st again", bank.feed('x'), Due.FULL);
        DUE.is("bytes", bank.count(4), TAPE);
        DUE.is("what was FULL is not there", bank.text(), 0);
        DUE.is("the first of a new text", bank.feed(' '), 1);
        ThreadBank ended = withBytes(TAPE);
        ended.end(TAPE - 1);
        DUE.is("the 160th again", ended.feed('x'), TAPE);
        DUE.is("the 161st then", ended.feed(' '), Due.FULL);
        DUE.is("at the last place", ended.text(), -10 - (TAPE - 1));
    }

    private static void feedIsBadBeforeFull() {
        ThreadBank bank = withBytes(TAPE);
        DUE.is("below", bank.feed(-1), Due.BAD);
        DUE.is("above", bank.feed(128), Due.BAD);
        DUE.is("bytes", bank.count(4), TAPE);
    }

    private static void endTakesUpToWhatThereIs() {
        for (int bytes : new int[] {0, 1, 7, TAPE - 1, TAPE}) {
            DUE.takes("end(n) of " + bytes, Due.from(0, bytes), n -> withBytes(bytes).end(n));
        }
    }

    private static void endKeepsTheFirstBytes() {
        // A NAME that was cut off runs into "left".
        int[] want = {1, -10, -10, -10, 2, -14, -14, -14, -14, -14, 3};
        for (int n = 0; n <= 10; n++) {
            ThreadBank bank = new ThreadBank();
            Due.feedAll(bank, "old;plain;");
            DUE.is("end(" + n + ")", bank.end(n), 10);
            DUE.is("bytes", bank.count(4), n);
            DUE.is("the same end again", bank.end(n), n);
            Due.feedAll(bank, "left;");
            DUE.is("text behind end(" + n + ")", bank.text(), want[n]);
        }
    }

    /** Bytes that end(n) or an earlier text took away would make the last TOKEN longer, or be one more. */
    private static void nothingIsReadBehindTheEnd() {
        String[][] cuts = {{"day 12", "5", "2"}, {"day 1;", "5", "2"}, {"oldest", "3", "2"}, {"old;?", "4", "0"},
            {"day 123", "6", "3"}, {"old;   ?", "6", "0"}};
        for (String[] cut : cuts) {
            int n = Integer.parseInt(cut[1]);
            int kind = Integer.parseInt(cut[2]);
            int want = kind == 0 ? 1 : kind == 3 ? -14 : -10 - n;
            ThreadBank ended = new ThreadBank();
            Due.feedAll(ended, cut[0]);
            ended.end(n);
            DUE.is("end(" + n + ") of '" + cut[0] + "'", ended.text(), want);
            DUE.is("its FAULT", ended.fault(), kind);
            ThreadBank earlier = new ThreadBank();
            Due.tell(earlier, cut[0]);
            DUE.is("behind a text '" + cut[0] + "'", Due.tell(earlier, cut[0].substring(0, n)), want);
            DUE.is("its FAULT", earlier.fault(), kind);
        }
    }

    // ---- 4, 5: text, fault

    private static void textOfNothing() {
        taken("", 0);
        taken(" ", 0);
        taken(" ".repeat(TAPE), 0);
        ThreadBank bank = Due.told("plain;left;day 5;tie 0 1 10;");
        DUE.is("an empty text tells all", bank.text(), 0);
        for (int what = 0; what < 5; what++) {
            DUE.is("rule(" + what + ")", bank.rule(what), 0);
        }
    }

    private static void textOfMostLines() {
        String ties = "tie 0 1 10;tie 0 1 10;tie 0 1 10;tie 1 1 10;tie 1 1 10;tie 1 1 10;"
            + "tie 2 1 10;tie 2 1 10;tie 2 1 10;tie 4 1 10;";
        taken(clerks(4) + "day 9;" + ties, 15);
        DUE.is("THREADS", Due.told(clerks(4) + "day 9;" + ties).rule(1), 10);
    }

    /** A TOKEN, the end and each FAULT at the last places of a full TAPE. */
    private static void textOf160Bytes() {
        taken(" ".repeat(TAPE - 4) + "old;", 1);
        refused(" ".repeat(TAPE - 3) + "old", 2, TAPE);
        refused(" ".repeat(TAPE - 1) + "?", 1, TAPE - 1);
        refused(" ".repeat(TAPE - 3) + "123", 1, TAPE - 3);
        refused("day" + " ".repeat(TAPE - 5) + "10", 3, TAPE - 2);
        refused("tie 0 1 10;" + " ".repeat(TAPE - 11), 6, TAPE);
        refused("old;old;tie 3 1 10;" + " ".repeat(TAPE - 19), 7, TAPE);
    }

    private static void textEmptiesTheTape() {
        for (String text : new String[] {"", "plain;", "x", "?", "day 10;", "tie 0 1 10;"}) {
            ThreadBank bank = new ThreadBank();
            Due.tell(bank, text);
            DUE.is("bytes behind '" + text + "'", bank.count(4), 0);
            DUE.is("end(1)", bank.end(1), Due.BAD);
            DUE.is("feed", bank.feed(' '), 1);
            DUE.is("nothing of it is left", bank.text(), 0);
        }
    }

    private static ThreadBank holdingAll() {
        ThreadBank bank = Due.told("plain;left;founder;day 6;tie 0 1 25;tie 10 1 25;tie 20 12 31;");
        bank.see(1, 2);
        bank.see(12, 3);
        bank.keep(1);
        bank.cut(0);
        bank.teach(1, 2);
        bank.day(3);
        bank.forget(1);
        bank.keep(0);
        bank.sheet(0, 1, 4);
        bank.sheet(3, 2, 3);
        bank.lay(3, 1, 1);
        bank.lay(3, 2, 77);
        bank.read(0, 0, 0, 1);
        return bank;
    }

    /** A text of each FAULT, the lines ahead of it good ones. */
    private static final String[] FAULTY = {"",
        "old;founder;day 9;tie 0 1 44;?",
        "old;founder;day 9;tie 0 1 44;tie",
        "old;founder;day 9;tie 0 1 44;tie 5",
        "old;founder;day 9;tie 0 1 44;day",
        "old;founder;day 9;tie 0 1 44;old;old;old",
        "old;founder;day 9;tie 0 1 44;tie 20 1 44;",
        "old;founder;day 9;tie 0 1 44;tie 10 1 44;tie 10 1 44;"};

    private static void textRefusedKeepsAll() {
        for (int kind = 1; kind <= 7; kind++) {
            ThreadBank bank = holdingAll();
            String before = Due.held(bank);
            DUE.is("refused", Due.tell(bank, FAULTY[kind]) <= -10 ? 1 : 0, 1);
            DUE.is("what can be asked", Due.held(bank), before);
            DUE.is("what there is", Due.heldWithin(bank), Due.heldWithin(holdingAll()));
        }
    }

    private static void textTakenLeavesNothingBehind() {
        ThreadBank bank = holdingAll();
        DUE.is("taken", Due.tell(bank, "left;plain;"), 2);
        DUE.is("CLERKS", bank.rule(0), 2);
        DUE.is("KIND", bank.clerk(0, 0), 1);
        DUE.is("THREADS", bank.rule(1), 0);
        DUE.is("DAY", bank.rule(2), 0);
        DUE.is("SEEN", bank.count(2), 0);
        DUE.is("IMAGES", bank.count(3), 0);
        DUE.is("IMAGE 0", bank.back(0), Due.STATE);
        DUE.is("IMAGE 1", bank.back(1), Due.STATE);
        DUE.is("the first IMAGE", bank.keep(0), 0);
        DUE.is("SHEET 0 stays", bank.count(5), 4);
        DUE.is("torn stays", bank.torn(), 3);
        DUE.is("a SHEET's CELLS stay", bank.read(3, 2, 0, 1), 1);
        DUE.is("its KNOT", bank.thread(0, 2), 77);
    }

    private static void faultOfEachKind() {
        DUE.is("of no text", new ThreadBank().fault(), 0);
        for (int kind = 1; kind <= 7; kind++) {
            ThreadBank bank = new ThreadBank();
            Due.tell(bank, FAULTY[kind]);
            DUE.is("fault of '" + FAULTY[kind] + "'", bank.fault(), kind);
        }
    }

    private static void faultIsOfTheLatestText() {
        ThreadBank bank = new ThreadBank();
        Due.tell(bank, "day 10;");
        Due.tell(bank, "?");
        DUE.is("the latter", bank.fault(), 1);
        bank.feed('x');
        bank.end(0);
        bank.day(4);
        bank.keep(0);
        bank.back(0);
        bank.lay(0, 0, 0);
        bank.read(0, 0, 0, 1);
        DUE.is("till the next one", bank.fault(), 1);
        bank.text();
        DUE.is("of a text that is taken", bank.fault(), 0);
    }

    // ---- TOKENS, FAULTS 1 and 2

    private static void bytesThatBeginNoToken() {
        for (int c = 0; c <= 127; c++) {
            String sign = String.valueOf((char) c);
            boolean begins = c >= 'a' && c <= 'z' || c >= '0' && c <= '9' || c == ';';
            if (c == ' ') {
                taken(sign, 0);
                continue;
            }
            refused(sign, begins ? 2 : 1, 0);
            if (!begins) {
                refused("old" + sign + ";", 1, 3);
                refused("old;" + sign, 1, 4);
                refused("day " + sign + "1;", 1, 4);
                refused("day 1" + sign + ";", 1, 5);
                refused("tie 0" + sign + "1 10;", 1, 5);
            }
        }
    }

    private static void numbersThatAreTooLong() {
        taken("day 1;", 1);
        taken("day 01;", 1);
        refused("day 001;", 1, 4);
        refused("day 123456789;", 1, 4);
        refused("123", 1, 0);
        refused("12", 2, 0);
        refused("old 100;", 1, 4);
        refused("old 10;", 2, 4);
        refused("old;1000", 1, 4);
        taken("old;old;tie 00 01 10;", 3);
        refused("tie 000 01 10;", 1, 4);
        refused("tie 00 001 10;", 1, 7);
        refused("tie 00 01 010;", 1, 10);
        refused("tie 00 01 10 111", 1, 13);
    }

    private static void tokensAsLongAsMayBe() {
        refused("oldold;", 2, 0);
        refused("oldday 1;", 2, 0);
        refused("ol d;", 2, 0);
        refused("day 1 1;", 2, 6);
        taken("day1;", 1);
        taken("old;old;tie0 1 10;", 3);
        refused("tie 01 10;", 2, 9);
        refused("tie 0 110;", 1, 6);
        refused("day 1old;", 2, 5);
        refused("old1;", 2, 3);
    }

    private static void blanksAreOnlyBlanks() {
        taken("   old   ;   day   7   ;   ", 2);
        taken("old;old;tie   0   1   10;", 3);
        for (char c : new char[] {0, 9, 10, 13, 31, 33, 127}) {
            refused("old;" + c + "old;", 1, 4);
        }
    }

    /** Each TOKEN of each line gives way to another kind of TOKEN, then to the end. */
    private static void tokensThatCanNotStand() {
        String[][] lines = {{"plain", ";"}, {"left", ";"}, {"old", ";"}, {"founder", ";"}, {"day", "5", ";"},
            {"tie", "0", "1", "10", ";"}};
        String[] others = {"x", "old", "tie", "10", "5", ";"};
        for (String[] line : lines) {
            String ahead = "";
            for (int i = 0; i < line.length; i++) {
                for (String other : others) {
                    boolean mayStand = i == 0 ? other.equals("old") || other.equals("tie")
                        : kindOf(other) == kindOf(line[i]);
                    if (!mayStand) {
                        refused(ahead + other, 2, ahead.length());
                        refused(ahead + other + " ;?", 2, ahead.length());
                    }
                }
                ahead = ahead + line[i] + " ";
            }
        }
    }

    private static int kindOf(String token) {
        char c = token.charAt(0);
        return c == ';' ? 0 : c <= '9' ? 1 : 2;
    }

    private static void theEndThatCanNotStand() {
        String[] cut = {"plain", "left", "old", "founder", "day", "day 1", "tie", "tie 0", "tie 0 1", "tie 0 1 10"};
        for (String text : cut) {
            refused(text, 2, text.length());
            refused(text + "   ", 2, text.length() + 3);
            refused("old;" + text, 2, text.length() + 4);
        }
    }

    // ---- FAULTS 3 to 7

    private static String two(int n) {
        return (n < 10 ? "0" : "") + n;
    }

    private static void daysOutOfBounds() {
        for (int n = 0; n <= 99; n++) {
            if (n <= 9) {
                DUE.is("day " + n, Due.told("day " + n + ";").rule(2), n);
                taken("day " + two(n) + ";", 1);
            } else {
                refused("day " + n + ";", 3, 4);
                refused("day " + n, 3, 4);
            }
        }
    }

    /** PLACES and PAIRS are of CLERKS 0 to 3, whichever there are. */
    private static void numbersOfTiesOutOfBounds() {
        String four = "plain;plain;plain;plain;";
        int at = four.length() + 4;
        for (int n = 0; n <= 99; n++) {
            boolean place = Due.placesOf(4).test(n);
            boolean pair = Due.pairsOf(4).test(n);
            tieIs(place, four + "tie " + two(n) + " 1 10;", at);
            tieIs(pair, four + "tie 00 " + two(n) + " 10;", at + 3);
            tieIs(n >= 10, four + "tie 00 01 " + two(n) + ";", at + 6);
            if (!place) {
                refused("tie " + two(n), 3, 4);
            }
            if (!pair) {
                refused("tie 0 " + n + " ?", 3, 6);
            }
        }
    }

    private static void tieIs(boolean good, String text, int place) {
        if (good) {
            taken(text, 5);
        } else {
            refused(text, 3, place);
        }
    }

    private static void dayForTheSecondTime() {
        refused("day 3;day 3;", 4, 6);
        refused("day 0;old;day 4;", 4, 10);
        refused("day 3;day 10;", 4, 6);
        refused("day 3;day ?", 4, 6);
        refused("day 3;  day", 4, 8);
        refused("day 3;days", 2, 6);
        ThreadBank bank = Due.told("day 3;");
        DUE.is("once in each text", Due.tell(bank, "day 4;"), 1);
    }

    private static void clerksAndTiesAtMost() {
        for (String kind : Due.KINDS) {
            taken(clerks(3) + kind + ";", 4);
            refused(clerks(4) + kind + ";", 5, 16);
            refused(clerks(4) + " " + kind, 5, 17);
            refused(clerks(4) + kind + " ?", 5, 16);
        }
        String ties = "tie 0 1 10;tie 0 1 10;tie 0 1 10;tie 1 1 10;tie 1 1 10;tie 1 1 10;"
            + "tie 2 1 10;tie 2 1 10;tie 2 1 10;";
        taken(clerks(2) + ties + "tie 4 1 10;", 12);
        refused(clerks(2) + ties + "tie 4 1 10;tie 4 1 10;", 5, 118);
        refused(clerks(2) + ties + "tie 4 1 10;tie ?", 5, 118);
        refused(clerks(2) + ties + "tie 4 1 10;tie", 5, 118);
        refused(ties + "tie 4 1 10; tie 99 99 99;", 5, 111);
    }

    private static void clerksThatThereAreNot() {
        for (int there = 0; there <= 4; there++) {
            for (int c = 0; c < 40; c++) {
                boolean known = c / 10 < there && c % 10 < there;
                if (c % 10 <= 4 && there >= 2) {
                    behindAll(clerks(there), c / 10 < there && c % 10 != 3, c, 1);
                }
                if (c % 10 <= 3 && c / 10 != c % 10) {
                    behindAll(clerks(there), known, 0, c);
                }
            }
        }
        String later = "tie 30 1 10;plain;plain;plain;";
        refused(later, 6, later.length());
        taken(later + "plain;", 5);
        refused("tie 0 1 10;plain;   ", 6, 20);
    }

    private static void behindAll(String ahead, boolean good, int place, int pair) {
        String text = ahead + "tie " + two(place) + " " + two(pair) + " 10;";
        boolean roomless = place / 10 < ahead.length() / 4 && place % 10 == 3;
        if (good) {
            taken(text, ahead.length() / 4 + 1);
        } else {
            refused(text, roomless ? 7 : 6, text.length());
        }
    }

    private static void fingersWithMoreThanRoom() {
        for (int kind = 0; kind < 4; kind++) {
            for (int finger = 0; finger < 5; finger++) {
                String clerks = "plain;" + Due.KINDS[kind] + ";";
                String tie = "tie 1" + finger + " 1 10;";
                String full = clerks + tie.repeat(Due.ROOMS[kind][finger]);
                taken(full, 2 + Due.ROOMS[kind][finger]);
                refused(full + tie, 7, full.length() + tie.length());
                refused(tie.repeat(Due.ROOMS[kind][finger] + 1) + clerks + " ", 7, full.length() + tie.length() + 1);
            }
        }
    }

    private static void faultsTheFirstMet() {
        refused("day 10 ?", 3, 4);
        refused("day ? 10", 1, 4);
        refused("old x ?", 2, 4);
        refused("tie 5 0 9;", 3, 4);
        refused("tie 4 0 9;", 3, 6);
        refused("tie 4 1 9;", 3, 8);
        refused("tie 4 1 10;day 1;day 1;", 4, 17);
        refused("tie 4 1 10;?", 1, 11);
        refused("tie 4 1 10;old", 2, 14);
        refused("old;tie 3 1 10;tie 3 1 10;", 6, 26);
        refused("old;old;tie 3 1 10;tie 3 2 10;", 6, 30);
        refused("old;old;tie 3 2 10;tie 3 1 10;", 6, 30);
        refused(clerks(4) + "day 1;day 2;old;", 4, 22);
        refused(clerks(4) + "old;day 1;day 2;", 5, 16);
    }

    // ---- 6 to 9: rule, clerk, finger, thread

    private static void ruleBounds() {
        DUE.takes("rule(what)", Due.from(0, 4), n -> new ThreadBank().rule(n));
        DUE.takes("rule(what) of much", Due.from(0, 4), n -> withThreads(10).rule(n));
    }

    private static void ruleEmptyAndFull() {
        ThreadBank bank = withThreads(10);
        DUE.is("most CLERKS", bank.rule(0), 4);
        DUE.is("most THREADS", bank.rule(1), 10);
        DUE.is("first DAY", bank.rule(2), 0);
        bank.day(9);
        DUE.is("last DAY", bank.rule(2), 9);
        DUE.is("most ROOM", bank.rule(3), 48);
        DUE.is("FINGERS, one THREAD each", bank.rule(4), 10);
        DUE.is("least ROOM", Due.told("founder;").rule(3), 5);
        ThreadBank each = Due.told("plain;plain;plain;plain;tie 0 1 10;");
        for (int i = 0; i < 20; i++) {
            int place = i / 5 * 10 + i % 5;
            each.move(0, place);
            DUE.is("a THREAD at " + place + " alone", each.rule(4), 1);
        }
        ThreadBank crowded = Due.told("old;old;tie 0 1 10;tie 0 1 10;tie 0 1 10;");
        DUE.is("one FINGER, three THREADS", crowded.rule(4), 1);
        int[] rooms = {10, 8, 12, 5};
        for (int kind = 0; kind < 4; kind++) {
            DUE.is("ROOM of " + Due.KINDS[kind], Due.told(Due.KINDS[kind] + ";").rule(3), rooms[kind]);
        }
    }

    private static void clerkBounds() {
        for (int there = 0; there <= 4; there++) {
            String text = clerks(there);
            for (int what = 0; what < 4; what++) {
                int asked = what;
                DUE.takes("clerk(c, " + what + ") of " + there, Due.from(0, there - 1),
                    n -> Due.told(text).clerk(n, asked));
            }
        }
        DUE.takes("clerk(3, what)", Due.from(0, 3), n -> Due.told(clerks(4)).clerk(3, n));
        DUE.takes("clerk(c, 4)", n -> false, n -> Due.told(clerks(4)).clerk(n, 4));
    }

    private static void clerkEmptyAndFull() {
        ThreadBank bank = Due.told("old;old;plain;");
        DUE.is("no THREAD", bank.clerk(0, 1), 0);
        DUE.is("NET of none", bank.clerk(0, 3), 1000);
        for (int t = 0; t < 10; t++) {
            bank.tie(new int[] {0, 1, 2, 4}[t / 3], 1, 99);
        }
        DUE.is("ten THREADS", bank.clerk(0, 1), 10);
        DUE.is("none beside", bank.clerk(1, 1), 0);
        DUE.is("least NET", bank.clerk(0, 3), 910);
        DUE.is("most NET", bank.clerk(1, 3), 1090);
        DUE.is("NET of another", bank.clerk(2, 3), 1000);
        int[] rooms = {10, 8, 12, 5};
        for (int kind = 0; kind < 4; kind++) {
            ThreadBank one = Due.told(Due.KINDS[kind] + ";");
            DUE.is("KIND", one.clerk(0, 0), kind);
            DUE.is("ROOM", one.clerk(0, 2), rooms[kind]);
        }
    }

    private static void fingerBounds() {
        for (int there = 0; there <= 4; there++) {
            String text = clerks(there);
            for (int what = 0; what < 2; what++) {
                int asked = what;
                DUE.takes("finger(place, " + what + ") of " + there, Due.placesOf(there),
                    n -> Due.told(text).finger(n, asked));
            }
        }
        DUE.takes("finger(34, what)", Due.from(0, 1), n -> Due.told(clerks(4)).finger(34, n));
    }

    private static void fingerEmptyAndFull() {
        for (int kind = 0; kind < 4; kind++) {
            ThreadBank bank = Due.told("plain;" + Due.KINDS[kind] + ";");
            for (int finger = 0; finger < 5; finger++) {
                DUE.is("ROOM", bank.finger(10 + finger, 0), Due.ROOMS[kind][finger]);
                DUE.is("no THREAD", bank.finger(10 + finger, 1), 0);
                for (int n = 1; n <= Due.ROOMS[kind][finger]; n++) {
                    bank.tie(10 + finger, 1, 10);
                    DUE.is("THREADS", bank.finger(10 + finger, 1), n);
                }
                DUE.is("ROOM of a full one", bank.finger(10 + finger, 0), Due.ROOMS[kind][finger]);
                bank.lose(1);
            }
        }
    }

    private static void threadBounds() {
        for (int there : new int[] {0, 1, 9, 10}) {
            for (int what = 0; what < 4; what++) {
                int asked = what;
                DUE.takes("thread(t, " + what + ") of " + there, Due.from(0, there - 1),
                    n -> withThreads(there).thread(n, asked));
            }
        }
        DUE.takes("thread(9, what)", Due.from(0, 3), n -> withThreads(10).thread(9, n));
    }

    /** Each thing that makes a COPY, left out in its turn. */
    private static void threadCopyOrNot() {
        String two = "plain;plain;plain;tie 0 1 25;";
        DUE.is("a COPY", Due.told(two + "tie 10 1 25;").thread(1, 3), 1);
        DUE.is("the lesser number is none", Due.told(two + "tie 10 1 25;").thread(0, 3), 0);
        DUE.is("the same hand", Due.told(two + "tie 0 1 25;").thread(1, 3), 0);
        DUE.is("another FINGER of it", Due.told(two + "tie 4 1 25;").thread(1, 3), 0);
        DUE.is("another MUCH", Due.told(two + "tie 10 1 35;").thread(1, 3), 0);
        DUE.is("another DAY", Due.told(two + "tie 10 1 24;").thread(1, 3), 0);
        DUE.is("the PAIR turned", Due.told(two + "tie 10 10 25;").thread(1, 3), 0);
        DUE.is("another PAIR", Due.told(two + "tie 10 2 25;").thread(1, 3), 0);
        DUE.is("a COPY of a COPY on the first hand", Due.told(two + "tie 10 1 25;tie 1 1 25;").thread(2, 3), 1);
    }
}
