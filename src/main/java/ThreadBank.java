/** A bank that remembers by threads on fingers. DOC.md says what each call answers. */
public final class ThreadBank {
    public static final int BAD = -1, STATE = -2, FULL = -3, NONE = -4;

    private static final int MOST_CLERKS = 4;
    private static final int MOST_THREADS = 10;
    private static final int MOST_SEEN = 6;
    private static final int MOST_BYTES = 160;
    private static final int FINGERS = 5;
    private static final int LAST_DAY = 9;

    private static final int OLD = 2;
    private static final int FOUNDER = 3;
    private static final int KINDS = 4;

    /** ROOM by KIND, five FINGERS each. */
    private static final int[] ROOMS = {
        2, 2, 2, 2, 2,
        2, 2, 2, 0, 2,
        3, 3, 3, 0, 3,
        1, 1, 1, 1, 1,
    };

    /** Odds are counted in twentieths, so that half of v out of ten is whole. */
    private static final int ODDS_WHOLE = 20;
    private static final int MOST_ODDS = 10;

    private static final int NULL_FAULT = 1;
    private static final int INDEX_FAULT = 2;
    private static final int CAST_FAULT = 3;
    private static final int SIZE_FAULT = 4;

    private final Memory now = new Memory();
    private final Memory firstImage = new Memory();
    private final Memory secondImage = new Memory();
    private final boolean[] imageThere = new boolean[2];
    private final TextReader reader = new TextReader();
    private final Clearing clearing = new Clearing();
    private final Sheets sheets = new Sheets();
    private final int[] originals = new int[MOST_THREADS];
    private int latestTorn;

    public ThreadBank() {
    }

    // ---- the text

    public int feed(int c) {
        if (c < 0 || c > 127) {
            return BAD;
        }
        return reader.append(c) ? reader.length : FULL;
    }

    public int end(int n) {
        if (n < 0 || n > reader.length) {
            return BAD;
        }
        int had = reader.length;
        reader.length = n;
        return had;
    }

    public int text() {
        boolean taken = reader.readAll();
        reader.length = 0;
        if (!taken) {
            return -10 - reader.faultPlace;
        }
        now.become(reader.told);
        imageThere[0] = false;
        imageThere[1] = false;
        return reader.lines;
    }

    public int fault() {
        return reader.faultKind;
    }

    public int rule(int what) {
        switch (what) {
            case 0:
                return now.clerks;
            case 1:
                return now.threads;
            case 2:
                return now.today;
            case 3:
                return now.roomOfAll();
            case 4:
                return now.fingersInUse();
            default:
                return BAD;
        }
    }

    public int clerk(int c, int what) {
        if (!now.hasClerk(c)) {
            return BAD;
        }
        switch (what) {
            case 0:
                return now.kindOf(c);
            case 1:
                return now.threadsOn(c);
            case 2:
                return now.roomOn(c);
            case 3:
                return 1000 + now.netOf(c);
            default:
                return BAD;
        }
    }

    public int finger(int place, int what) {
        if (!now.hasPlace(place) || what < 0 || what > 1) {
            return BAD;
        }
        return what == 0 ? now.roomAt(place) : now.threadsAt(place);
    }

    public int thread(int t, int what) {
        if (!now.hasThread(t)) {
            return BAD;
        }
        switch (what) {
            case 0:
                return now.places[t];
            case 1:
                return now.pairs[t];
            case 2:
                return now.knots[t];
            case 3:
                return now.isCopy(t) ? 1 : 0;
            default:
                return BAD;
        }
    }

    // ---- what is changed

    public int tie(int place, int pair, int knot) {
        return now.tieIfMay(place, pair, knot);
    }

    public int cut(int t) {
        if (!now.hasThread(t)) {
            return BAD;
        }
        now.cutThread(t);
        return now.threads;
    }

    public int move(int t, int place) {
        if (!now.hasThread(t) || !now.hasPlace(place)) {
            return BAD;
        }
        int from = now.places[t];
        if (from == place) {
            return STATE;
        }
        if (now.roomLeftAt(place) <= 0) {
            return FULL;
        }
        now.places[t] = place;
        return from;
    }

    public int lose(int c) {
        if (!now.hasClerk(c)) {
            return BAD;
        }
        int before = now.threads;
        for (int t = before - 1; t >= 0; t--) {
            if (now.handOf(t) == c) {
                now.cutThread(t);
            }
        }
        return before - now.threads;
    }

    public int teach(int c, int kind) {
        if (!now.hasClerk(c) || kind < 0 || kind >= KINDS) {
            return BAD;
        }
        for (int finger = 0; finger < FINGERS; finger++) {
            if (now.threadsAt(10 * c + finger) > Memory.roomOf(kind, finger)) {
                return FULL;
            }
        }
        int was = now.kindOf(c);
        now.kinds[c] = kind;
        return was;
    }

    public int day(int d) {
        if (d < 0 || d > LAST_DAY) {
            return BAD;
        }
        int was = now.today;
        now.today = d;
        return was;
    }

    // ---- what is owed

    public int owed(int pair, int what) {
        if (!now.hasPair(pair) || what < 0 || what > 1) {
            return BAD;
        }
        return now.owedBy(pair, what == 0 ? LAST_DAY : now.today);
    }

    public int sum(int what) {
        switch (what) {
            case 0:
                return now.owedInAll(LAST_DAY);
            case 1:
                return now.owedInAll(now.today);
            case 2:
                return sumOfNetsAboveNothing();
            default:
                return BAD;
        }
    }

    public int ring(int what) {
        boolean asksClerk = what >= 10;
        if (what != 0 && what != 1 && !asksClerk) {
            return BAD;
        }
        clearing.begin(now);
        if (!clearing.findBest()) {
            return NONE;
        }
        if (asksClerk) {
            return clearing.clerkOfBest(what - 10);
        }
        return what == 0 ? clearing.gainOfBest() : clearing.sizeOfBest();
    }

    public int clear(int what) {
        if (what < 0 || what > 1) {
            return BAD;
        }
        clearing.begin(now);
        int rings = clearing.takeAll();
        return what == 0 ? clearing.owedStill() : rings;
    }

    public int left(int pair) {
        if (!now.hasPair(pair)) {
            return BAD;
        }
        clearing.begin(now);
        clearing.takeAll();
        return clearing.owes(pair / 10, pair % 10);
    }

    /**
     * CLERKS whose NETS sum to 0 need one payment less than they are, so two groups spare one.
     * Of 4 CLERKS only two groups of two can be, and if one sums to 0 the other does too.
     */
    public int pays() {
        int unpaid = 0;
        for (int c = 0; c < now.clerks; c++) {
            if (now.netOf(c) != 0) {
                unpaid++;
            }
        }
        if (unpaid == 0) {
            return 0;
        }
        return unpaid == MOST_CLERKS && firstHasMate() ? unpaid - 2 : unpaid - 1;
    }

    // ---- hands

    public int fewest() {
        int fingers = 0;
        int homeless = now.threads;
        for (int room = 3; room >= 1; room--) {
            for (int i = now.fingersOfRoom(room); i > 0 && homeless > 0; i--) {
                homeless -= room;
                fingers++;
            }
        }
        return fingers;
    }

    public int place() {
        int hand = NONE;
        for (int c = 0; c < now.clerks; c++) {
            boolean better = hand == NONE || now.threadsOn(c) < now.threadsOn(hand);
            if (now.roomLeftOn(c) > 0 && better) {
                hand = c;
            }
        }
        return hand == NONE ? NONE : roomiestPlaceOn(hand);
    }

    public int risk(int c) {
        return now.hasClerk(c) ? now.debtsLostWith(1 << c) : BAD;
    }

    /**
     * Each debt on one hand alone wants one THREAD more, on any other hand. They all find ROOM,
     * if they do in all and those of each hand do on the others.
     */
    public int copies() {
        int wanted = 0;
        int room = 0;
        for (int c = 0; c < now.clerks; c++) {
            wanted += now.debtsLostWith(1 << c);
            room += now.roomLeftOn(c);
        }
        if (wanted > room || wanted > MOST_THREADS - now.threads) {
            return NONE;
        }
        for (int c = 0; c < now.clerks; c++) {
            if (now.debtsLostWith(1 << c) > room - now.roomLeftOn(c)) {
                return NONE;
            }
        }
        return wanted;
    }

    public int spare(int what) {
        if (what < 0 || what > 1) {
            return BAD;
        }
        int best = 0;
        for (int hands = 1; hands < 1 << now.clerks; hands++) {
            boolean more = Integer.bitCount(hands) > Integer.bitCount(best);
            if (more && now.debtsLostWith(hands) == 0) {
                best = hands;
            }
        }
        return what == 0 ? Integer.bitCount(best) : best;
    }

    public int quarrel(int what) {
        if (what < 0 || what > 1) {
            return BAD;
        }
        int quarrels = 0;
        int first = NONE;
        for (int t = 0; t < now.threads; t++) {
            for (int u = t + 1; u < now.threads; u++) {
                if (now.quarrelOf(t, u)) {
                    first = quarrels == 0 ? 10 * t + u : first;
                    quarrels++;
                }
            }
        }
        return what == 0 ? quarrels : first;
    }

    // ---- laundry

    public long kept(int v, int t, int what) {
        if (!isOdds(v) || !now.hasThread(t) || !isPart(what)) {
            return BAD;
        }
        long slipping = 1;
        long whole = 1;
        for (int u = 0; u < now.threads; u++) {
            if (now.sameDebt(t, u)) {
                slipping *= now.slipOdds(u, v);
                whole *= ODDS_WHOLE;
            }
        }
        return partOf(whole - slipping, whole, what);
    }

    public long slips(int v, int what) {
        if (!isOdds(v) || !isPart(what)) {
            return BAD;
        }
        long mean = 0;
        for (int t = 0; t < now.threads; t++) {
            mean += now.slipOdds(t, v);
        }
        return partOf(mean, ODDS_WHOLE, what);
    }

    public long none(int v, int what) {
        if (!isOdds(v) || !isPart(what)) {
            return BAD;
        }
        long staying = 1;
        long whole = 1;
        for (int t = 0; t < now.threads; t++) {
            staying *= ODDS_WHOLE - now.slipOdds(t, v);
            whole *= ODDS_WHOLE;
        }
        return partOf(staying, whole, what);
    }

    // ---- what was cut

    public int see(int pair, int much) {
        if (!now.hasPair(pair) || much < 0 || much > 99) {
            return BAD;
        }
        return now.addSeen(pair, much) ? now.seen : FULL;
    }

    public int forget(int n) {
        if (n < 0 || n > now.seen) {
            return BAD;
        }
        int were = now.seen;
        now.seen = n;
        return were;
    }

    public int fits(int what) {
        if (what < 0 || what > 4) {
            return BAD;
        }
        int all = now.threadBits();
        int sets = 0;
        int least = 0;
        int inEach = all;
        int inSome = 0;
        int smallest = MOST_THREADS;
        now.noteOriginals(originals);
        for (int cut = 0; cut <= all; cut++) {
            if (now.isAsSeen(cut, originals)) {
                least = sets == 0 ? cut : least;
                sets++;
                inEach &= cut;
                inSome |= cut;
                smallest = Math.min(smallest, Integer.bitCount(cut));
            }
        }
        if (what == 0) {
            return sets;
        }
        if (sets == 0) {
            return NONE;
        }
        switch (what) {
            case 1:
                return least;
            case 2:
                return inEach;
            case 3:
                return all & ~inSome;
            default:
                return smallest;
        }
    }

    // ---- by a seed

    public int drift(int seed, int n, int v) {
        if (n < 1 || n > 20 || !isOdds(v)) {
            return BAD;
        }
        int staying = now.threadBits();
        int chance = seed;
        for (int laundry = 0; laundry < n; laundry++) {
            for (int t = 0; t < now.threads; t++) {
                if (hasBit(staying, t)) {
                    chance = chance * 1103515245 + 12345;
                    boolean slipping = (chance >>> 16 & 0x7fff) % ODDS_WHOLE < now.slipOdds(t, v);
                    staying = slipping ? staying & ~(1 << t) : staying;
                }
            }
        }
        return staying;
    }

    // ---- images, sheets

    public int keep(int k) {
        if (!isImage(k)) {
            return BAD;
        }
        int was = imageThere[k] ? 1 : 0;
        imageOf(k).become(now);
        imageThere[k] = true;
        return was;
    }

    public int back(int k) {
        if (!isImage(k)) {
            return BAD;
        }
        if (!imageThere[k]) {
            return STATE;
        }
        now.become(imageOf(k));
        return now.threads;
    }

    public int sheet(int k, int lane, int n) {
        if (!Sheets.isSheet(k) || !Sheets.isLane(lane) || n > Sheets.MOST_CELLS) {
            return BAD;
        }
        if (n < 0) {
            return -10 - SIZE_FAULT;
        }
        sheets.renew(k, lane, n);
        return 1;
    }

    public int lay(int k, int i, int v) {
        if (!Sheets.isSheet(k)) {
            return BAD;
        }
        if (sheets.isNothing(k)) {
            return -10 - NULL_FAULT;
        }
        if (!sheets.hasCell(k, i)) {
            return -10 - INDEX_FAULT;
        }
        sheets.write(k, i, v);
        return 1;
    }

    public int read(int k, int lane, int f, int n) {
        if (!Sheets.isSheet(k) || !Sheets.isLane(lane) || n < 0 || n > 10) {
            return BAD;
        }
        int found = sheets.faultAsOf(k, lane);
        int before = now.threads;
        for (int i = 0; i < n && found == 0; i++) {
            int at = f + 3 * i;
            found = sheets.faultOfThree(k, at);
            if (found == 0 && !tieThreeCells(k, at)) {
                now.threads = before;
                return -20 - i;
            }
        }
        latestTorn = found;
        return now.threads - before;
    }

    public int torn() {
        return latestTorn;
    }

    public int count(int what) {
        switch (what) {
            case 0:
                return now.debts();
            case 1:
                return now.copiesTied();
            case 2:
                return now.seen;
            case 3:
                return (imageThere[0] ? 1 : 0) + (imageThere[1] ? 1 : 0);
            case 4:
                return reader.length;
            case 5:
                return sheets.isNothing(0) ? NONE : sheets.sizes[0];
            default:
                return BAD;
        }
    }

    // ---- helpers

    private boolean tieThreeCells(int k, int at) {
        return now.tieIfMay(sheets.cell(k, at), sheets.cell(k, at + 1), sheets.cell(k, at + 2)) >= 0;
    }

    private int sumOfNetsAboveNothing() {
        int sum = 0;
        for (int c = 0; c < now.clerks; c++) {
            sum += Math.max(0, now.netOf(c));
        }
        return sum;
    }

    private boolean firstHasMate() {
        for (int c = 1; c < now.clerks; c++) {
            if (now.netOf(0) + now.netOf(c) == 0) {
                return true;
            }
        }
        return false;
    }

    private int roomiestPlaceOn(int hand) {
        int best = 10 * hand;
        for (int at = best + 1; at < 10 * hand + FINGERS; at++) {
            if (now.roomLeftAt(at) > now.roomLeftAt(best)) {
                best = at;
            }
        }
        return best;
    }

    private Memory imageOf(int k) {
        return k == 0 ? firstImage : secondImage;
    }

    private static boolean isImage(int k) {
        return k == 0 || k == 1;
    }

    private static boolean isOdds(int v) {
        return v >= 0 && v <= MOST_ODDS;
    }

    private static boolean isPart(int what) {
        return what == 0 || what == 1;
    }

    private static boolean hasBit(int bits, int i) {
        return (bits >> i & 1) != 0;
    }

    /** The numerator (what 0) or the denominator of a fraction in lowest terms. */
    private static long partOf(long above, long below, int what) {
        long shared = greatestShared(above, below);
        if (shared == 0) {
            return 0;
        }
        return (what == 0 ? above : below) / shared;
    }

    /** Numbers below 20 to the tenth: their remainders are at 0 long before a hundred steps. */
    private static long greatestShared(long a, long b) {
        long more = a;
        long less = b;
        for (int step = 0; step < 100 && less != 0; step++) {
            long rest = more % less;
            more = less;
            less = rest;
        }
        return more;
    }

    /** What an IMAGE holds: KINDS, THREADS, DAY and what was SEEN. */
    private static final class Memory {
        final int[] kinds = new int[MOST_CLERKS];
        final int[] places = new int[MOST_THREADS];
        final int[] pairs = new int[MOST_THREADS];
        final int[] knots = new int[MOST_THREADS];
        final int[] seenPairs = new int[MOST_SEEN];
        final int[] seenSums = new int[MOST_SEEN];
        int clerks;
        int threads;
        int today;
        int seen;

        void wipe() {
            clerks = 0;
            threads = 0;
            today = 0;
            seen = 0;
        }

        void become(Memory other) {
            clerks = other.clerks;
            threads = other.threads;
            today = other.today;
            seen = other.seen;
            System.arraycopy(other.kinds, 0, kinds, 0, MOST_CLERKS);
            System.arraycopy(other.places, 0, places, 0, MOST_THREADS);
            System.arraycopy(other.pairs, 0, pairs, 0, MOST_THREADS);
            System.arraycopy(other.knots, 0, knots, 0, MOST_THREADS);
            System.arraycopy(other.seenPairs, 0, seenPairs, 0, MOST_SEEN);
            System.arraycopy(other.seenSums, 0, seenSums, 0, MOST_SEEN);
        }

        static boolean isPlace(int number, int clerks) {
            return number >= 0 && number / 10 < clerks && number % 10 < FINGERS;
        }

        static boolean isPair(int number, int clerks) {
            int debtor = number / 10;
            int creditor = number % 10;
            return number >= 0 && debtor < clerks && creditor < clerks && debtor != creditor;
        }

        static boolean isKnot(int number) {
            return number >= 10 && number <= 99;
        }

        static int roomOf(int kind, int finger) {
            if (kind < 0 || kind >= KINDS || finger < 0 || finger >= FINGERS) {
                return 0;
            }
            return ROOMS[FINGERS * kind + finger];
        }

        boolean hasClerk(int c) {
            return c >= 0 && c < clerks;
        }

        boolean hasThread(int t) {
            return t >= 0 && t < threads;
        }

        boolean hasPlace(int number) {
            return isPlace(number, clerks);
        }

        boolean hasPair(int number) {
            return isPair(number, clerks);
        }

        int kindOf(int c) {
            return hasClerk(c) ? kinds[c] : NONE;
        }

        int handOf(int t) {
            return hasThread(t) ? places[t] / 10 : NONE;
        }

        int threadBits() {
            return (1 << threads) - 1;
        }

        int threadsAt(int number) {
            int there = 0;
            for (int t = 0; t < threads; t++) {
                if (places[t] == number) {
                    there++;
                }
            }
            return there;
        }

        int threadsOn(int c) {
            int there = 0;
            for (int t = 0; t < threads; t++) {
                if (handOf(t) == c) {
                    there++;
                }
            }
            return there;
        }

        int roomAt(int number) {
            return hasPlace(number) ? roomOf(kindOf(number / 10), number % 10) : 0;
        }

        int roomOn(int c) {
            int room = 0;
            for (int finger = 0; finger < FINGERS; finger++) {
                room += roomAt(10 * c + finger);
            }
            return room;
        }

        int roomOfAll() {
            int room = 0;
            for (int c = 0; c < clerks; c++) {
                room += roomOn(c);
            }
            return room;
        }

        int roomLeftAt(int number) {
            return roomAt(number) - threadsAt(number);
        }

        /** No FINGER has more THREADS than ROOM, so what is left may be told of the whole hand. */
        int roomLeftOn(int c) {
            return roomOn(c) - threadsOn(c);
        }

        int fingersOfRoom(int room) {
            int fingers = 0;
            for (int c = 0; c < clerks; c++) {
                for (int finger = 0; finger < FINGERS; finger++) {
                    if (roomAt(10 * c + finger) == room) {
                        fingers++;
                    }
                }
            }
            return fingers;
        }

        int fingersInUse() {
            int fingers = 0;
            for (int c = 0; c < clerks; c++) {
                for (int finger = 0; finger < FINGERS; finger++) {
                    if (threadsAt(10 * c + finger) > 0) {
                        fingers++;
                    }
                }
            }
            return fingers;
        }

        boolean addClerk(int kind) {
            if (clerks >= MOST_CLERKS) {
                return false;
            }
            kinds[clerks] = kind;
            clerks++;
            return true;
        }

        boolean addThread(int atPlace, int ofPair, int ofKnot) {
            if (threads >= MOST_THREADS) {
                return false;
            }
            places[threads] = atPlace;
            pairs[threads] = ofPair;
            knots[threads] = ofKnot;
            threads++;
            return true;
        }

        boolean addSeen(int pair, int much) {
            if (seen >= MOST_SEEN) {
                return false;
            }
            seenPairs[seen] = pair;
            seenSums[seen] = much;
            seen++;
            return true;
        }

        int tieIfMay(int atPlace, int ofPair, int ofKnot) {
            if (!hasPlace(atPlace) || !hasPair(ofPair) || !isKnot(ofKnot)) {
                return BAD;
            }
            if (roomLeftAt(atPlace) <= 0 || !addThread(atPlace, ofPair, ofKnot)) {
                return FULL;
            }
            return threads - 1;
        }

        void cutThread(int gone) {
            if (!hasThread(gone)) {
                return;
            }
            for (int t = gone; t < threads - 1; t++) {
                places[t] = places[t + 1];
                pairs[t] = pairs[t + 1];
                knots[t] = knots[t + 1];
            }
            threads--;
        }

        boolean sameDebt(int t, int u) {
            return hasThread(t) && hasThread(u) && pairs[t] == pairs[u] && knots[t] == knots[u];
        }

        /** Bits of the THREADS each of which makes this one a COPY. */
        int originalsOf(int t) {
            int bits = 0;
            for (int u = 0; u < t; u++) {
                if (sameDebt(t, u) && handOf(t) != handOf(u)) {
                    bits |= 1 << u;
                }
            }
            return bits;
        }

        boolean isCopy(int t) {
            return originalsOf(t) != 0;
        }

        int copiesTied() {
            int copies = 0;
            for (int t = 0; t < threads; t++) {
                if (isCopy(t)) {
                    copies++;
                }
            }
            return copies;
        }

        /** What is OWED by a PAIR up to a latest DAY. */
        int owedBy(int pair, int latest) {
            int sum = 0;
            for (int t = 0; t < threads; t++) {
                if (pairs[t] == pair && knots[t] % 10 <= latest && !isCopy(t)) {
                    sum += knots[t] / 10;
                }
            }
            return sum;
        }

        int owedInAll(int latest) {
            int sum = 0;
            for (int debtor = 0; debtor < clerks; debtor++) {
                for (int creditor = 0; creditor < clerks; creditor++) {
                    sum += owedBy(10 * debtor + creditor, latest);
                }
            }
            return sum;
        }

        int netOf(int c) {
            int net = 0;
            for (int other = 0; other < clerks; other++) {
                net += owedBy(10 * other + c, LAST_DAY);
                net -= owedBy(10 * c + other, LAST_DAY);
            }
            return net;
        }

        /** Noted once for all sets of THREADS that could be cut: there are up to 1024. */
        void noteOriginals(int[] notes) {
            for (int t = 0; t < threads && t < notes.length; t++) {
                notes[t] = originalsOf(t);
            }
        }

        /** What were OWED by a PAIR, if the THREADS of these bits were cut: a COPY is none without its originals. */
        int owedWithout(int cut, int pair, int[] notes) {
            int sum = 0;
            for (int t = 0; t < threads && t < notes.length; t++) {
                if (pairs[t] == pair && !hasBit(cut, t) && (notes[t] & ~cut) == 0) {
                    sum += knots[t] / 10;
                }
            }
            return sum;
        }

        boolean isAsSeen(int cut, int[] notes) {
            for (int i = 0; i < seen; i++) {
                if (owedWithout(cut, seenPairs[i], notes) != seenSums[i]) {
                    return false;
                }
            }
            return true;
        }

        boolean isFirstOfDebt(int t) {
            for (int u = 0; u < t; u++) {
                if (sameDebt(t, u)) {
                    return false;
                }
            }
            return true;
        }

        int debts() {
            int debts = 0;
            for (int t = 0; t < threads; t++) {
                if (isFirstOfDebt(t)) {
                    debts++;
                }
            }
            return debts;
        }

        boolean isKeptWithout(int t, int hands) {
            for (int u = 0; u < threads; u++) {
                if (sameDebt(t, u) && !hasBit(hands, handOf(u))) {
                    return true;
                }
            }
            return false;
        }

        /** Debts that are KEPT no more, if the hands of these bits are LOST. */
        int debtsLostWith(int hands) {
            int lost = 0;
            for (int t = 0; t < threads; t++) {
                if (isFirstOfDebt(t) && !isKeptWithout(t, hands)) {
                    lost++;
                }
            }
            return lost;
        }

        boolean quarrelOf(int t, int u) {
            if (!hasThread(t) || !hasThread(u)) {
                return false;
            }
            boolean sameDay = knots[t] % 10 == knots[u] % 10;
            boolean sameMuch = knots[t] / 10 == knots[u] / 10;
            return handOf(t) != handOf(u) && pairs[t] == pairs[u] && sameDay && !sameMuch;
        }

        /** The odds, in twentieths, that a THREAD SLIPS in a LAUNDRY by v out of ten. */
        int slipOdds(int t, int v) {
            switch (kindOf(handOf(t))) {
                case OLD:
                    return v;
                case FOUNDER:
                    return 0;
                default:
                    return 2 * v;
            }
        }
    }

    /** THE TAPE, and how it is read. */
    private static final class TextReader {
        private static final int THE_END = 0;
        private static final int NAME = 1;
        private static final int NUMBER = 2;
        private static final int STOP = 3;

        private static final int DAY_WORD = 4;
        private static final int TIE_WORD = 5;

        final byte[] tape = new byte[MOST_BYTES];
        final Memory told = new Memory();
        int length;
        int lines;
        int faultKind;
        int faultPlace;
        private int at;
        private int token;
        private int start;
        private int number;
        private boolean dayTold;

        boolean append(int c) {
            if (length < 0 || length >= MOST_BYTES) {
                return false;
            }
            tape[length] = (byte) c;
            length++;
            return true;
        }

        boolean readAll() {
            begin();
            for (int i = 0; i <= MOST_BYTES; i++) {
                if (!nextToken()) {
                    return false;
                }
                if (token == THE_END) {
                    return isWhole();
                }
                if (!readLine()) {
                    return false;
                }
                lines++;
            }
            return false;
        }

        private void begin() {
            told.wipe();
            lines = 0;
            faultKind = 0;
            faultPlace = 0;
            at = 0;
            dayTold = false;
        }

        private boolean fail(int kind, int where) {
            faultKind = kind;
            faultPlace = where;
            return false;
        }

        private boolean readLine() {
            int word = token == NAME ? wordRead() : NONE;
            switch (word) {
                case NONE:
                    return fail(2, start);
                case DAY_WORD:
                    return readDay() && readStop();
                case TIE_WORD:
                    return readTie() && readStop();
                default:
                    return (told.addClerk(word) || fail(5, start)) && readStop();
            }
        }

        private boolean readDay() {
            if (dayTold) {
                return fail(4, start);
            }
            if (!readNumber()) {
                return false;
            }
            if (number > LAST_DAY) {
                return fail(3, start);
            }
            dayTold = true;
            told.today = number;
            return true;
        }

        private boolean readTie() {
            if (told.threads >= MOST_THREADS) {
                return fail(5, start);
            }
            if (!readNumber()) {
                return false;
            }
            int place = number;
            if (!Memory.isPlace(place, MOST_CLERKS)) {
                return fail(3, start);
            }
            if (!readNumber()) {
                return false;
            }
            int pair = number;
            if (!Memory.isPair(pair, MOST_CLERKS)) {
                return fail(3, start);
            }
            if (!readNumber()) {
                return false;
            }
            return Memory.isKnot(number) ? told.addThread(place, pair, number) : fail(3, start);
        }

        private boolean readNumber() {
            if (!nextToken()) {
                return false;
            }
            if (token != NUMBER) {
                return fail(2, start);
            }
            number = 0;
            for (int i = start; i < at; i++) {
                number = 10 * number + byteAt(i) - '0';
            }
            return true;
        }

        private boolean readStop() {
            return nextToken() && (token == STOP || fail(2, start));
        }

        /** What can only be told when all has been read. */
        private boolean isWhole() {
            for (int t = 0; t < told.threads; t++) {
                if (!told.hasPlace(told.places[t]) || !told.hasPair(told.pairs[t])) {
                    return fail(6, length);
                }
            }
            for (int t = 0; t < told.threads; t++) {
                if (told.roomLeftAt(told.places[t]) < 0) {
                    return fail(7, length);
                }
            }
            return true;
        }

        private boolean nextToken() {
            start = endOfRun(at, ' ', ' ');
            at = start;
            if (start >= length) {
                token = THE_END;
                return true;
            }
            if (byteAt(start) == ';') {
                token = STOP;
                at++;
                return true;
            }
            at = endOfRun(start, 'a', 'z');
            if (at > start) {
                token = NAME;
                return true;
            }
            at = endOfRun(start, '0', '9');
            token = NUMBER;
            return at > start && at <= start + 2 || fail(1, start);
        }

        /** The first place from there on at which no byte from low to high stands. */
        private int endOfRun(int from, int low, int high) {
            int i = Math.max(0, from);
            while (i < length && i < MOST_BYTES && tape[i] >= low && tape[i] <= high) {
                i++;
            }
            return i;
        }

        /** -1 where THE TAPE is at its end. */
        private int byteAt(int i) {
            return i >= 0 && i < length && i < MOST_BYTES ? tape[i] : -1;
        }

        /** The KIND that a NAME tells, or which other line it begins, or NONE. */
        private int wordRead() {
            if (isWord("plain")) {
                return 0;
            }
            if (isWord("left")) {
                return 1;
            }
            if (isWord("old")) {
                return OLD;
            }
            if (isWord("founder")) {
                return FOUNDER;
            }
            if (isWord("day")) {
                return DAY_WORD;
            }
            return isWord("tie") ? TIE_WORD : NONE;
        }

        private boolean isWord(String word) {
            if (at - start != word.length()) {
                return false;
            }
            for (int i = 0; i < word.length(); i++) {
                if (byteAt(start + i) != word.charAt(i)) {
                    return false;
                }
            }
            return true;
        }
    }

    /** RINGS among what is OWED; only reckoned, no THREAD is touched. */
    private static final class Clearing {
        /** How many CLERKS, then these by order: the row that CLEARING takes of equal ones is first. */
        private static final int[] RINGS = {
            2, 0, 1, 0, 0,
            2, 0, 2, 0, 0,
            2, 0, 3, 0, 0,
            2, 1, 2, 0, 0,
            2, 1, 3, 0, 0,
            2, 2, 3, 0, 0,
            3, 0, 1, 2, 0,
            3, 0, 1, 3, 0,
            3, 0, 2, 1, 0,
            3, 0, 2, 3, 0,
            3, 0, 3, 1, 0,
            3, 0, 3, 2, 0,
            3, 1, 2, 3, 0,
            3, 1, 3, 2, 0,
            4, 0, 1, 2, 3,
            4, 0, 1, 3, 2,
            4, 0, 2, 1, 3,
            4, 0, 2, 3, 1,
            4, 0, 3, 1, 2,
            4, 0, 3, 2, 1,
        };
        private static final int ROW = 5;
        /** A RING leaves at least one of 12 PAIRS at 0, so no CLEARING takes more. */
        private static final int MOST_RINGS = 12;

        private final int[] sums = new int[MOST_CLERKS * MOST_CLERKS];
        private int best;
        private int gain;

        void begin(Memory memory) {
            for (int debtor = 0; debtor < MOST_CLERKS; debtor++) {
                for (int creditor = 0; creditor < MOST_CLERKS; creditor++) {
                    int pair = 10 * debtor + creditor;
                    sums[MOST_CLERKS * debtor + creditor] = memory.owedBy(pair, LAST_DAY);
                }
            }
        }

        int owes(int debtor, int creditor) {
            int i = MOST_CLERKS * debtor + creditor;
            return i >= 0 && i < sums.length ? sums[i] : 0;
        }

        int owedStill() {
            int sum = 0;
            for (int i = 0; i < sums.length; i++) {
                sum += sums[i];
            }
            return sum;
        }

        boolean findBest() {
            best = 0;
            gain = 0;
            for (int row = 0; row < RINGS.length; row += ROW) {
                int less = leastIn(row) * sizeOf(row);
                if (less > gain) {
                    gain = less;
                    best = row;
                }
            }
            return gain > 0;
        }

        int gainOfBest() {
            return gain;
        }

        int sizeOfBest() {
            return sizeOf(best);
        }

        int clerkOfBest(int i) {
            return i >= 0 && i < sizeOf(best) ? clerkIn(best, i) : NONE;
        }

        int takeAll() {
            int taken = 0;
            while (taken < MOST_RINGS && findBest()) {
                takeBest();
                taken++;
            }
            return taken;
        }

        private void takeBest() {
            int least = leastIn(best);
            for (int i = 0; i < sizeOf(best); i++) {
                int edge = MOST_CLERKS * clerkIn(best, i) + clerkIn(best, i + 1);
                if (edge >= 0 && edge < sums.length) {
                    sums[edge] -= least;
                }
            }
        }

        private int leastIn(int row) {
            int least = owes(clerkIn(row, 0), clerkIn(row, 1));
            for (int i = 1; i < sizeOf(row); i++) {
                least = Math.min(least, owes(clerkIn(row, i), clerkIn(row, i + 1)));
            }
            return least;
        }

        private static int sizeOf(int row) {
            return row >= 0 && row < RINGS.length ? RINGS[row] : 0;
        }

        /** Behind its last CLERK a RING comes round to its first. */
        private static int clerkIn(int row, int i) {
            int at = row + 1 + (i < sizeOf(row) ? i : 0);
            return at >= 0 && at < RINGS.length ? RINGS[at] : 0;
        }
    }

    /** SHEETS, all of their CELLS in one row. */
    private static final class Sheets {
        static final int MOST_CELLS = 40;
        private static final int SHEETS = 4;
        private static final int LANES = 3;
        private static final int BYTES = 0;
        private static final int SHORTS = 1;

        private final int[] cells = new int[SHEETS * MOST_CELLS];
        private final int[] lanes = new int[SHEETS];
        final int[] sizes = {NONE, NONE, NONE, NONE};

        static boolean isSheet(int k) {
            return k >= 0 && k < SHEETS;
        }

        static boolean isLane(int lane) {
            return lane >= 0 && lane < LANES;
        }

        boolean isNothing(int k) {
            return !isSheet(k) || sizes[k] == NONE;
        }

        boolean hasCell(int k, int i) {
            return !isNothing(k) && i >= 0 && i < sizes[k];
        }

        int cell(int k, int i) {
            return hasCell(k, i) ? cells[MOST_CELLS * k + i] : 0;
        }

        void renew(int k, int lane, int n) {
            if (isSheet(k) && n >= 0 && n <= MOST_CELLS) {
                for (int i = 0; i < n; i++) {
                    cells[MOST_CELLS * k + i] = 0;
                }
                lanes[k] = lane;
                sizes[k] = n;
            }
        }

        void write(int k, int i, int v) {
            if (hasCell(k, i)) {
                cells[MOST_CELLS * k + i] = lowestBits(lanes[k], v);
            }
        }

        private static int lowestBits(int lane, int v) {
            switch (lane) {
                case BYTES:
                    return (byte) v;
                case SHORTS:
                    return (short) v;
                default:
                    return v;
            }
        }

        /** Nothing can be taken as of any lane, and is found only where a CELL is asked. */
        int faultAsOf(int k, int lane) {
            return isNothing(k) || lanes[k] == lane ? 0 : CAST_FAULT;
        }

        int faultOfThree(int k, int at) {
            if (isNothing(k)) {
                return NULL_FAULT;
            }
            return hasCell(k, at) && hasCell(k, at + 1) && hasCell(k, at + 2) ? 0 : INDEX_FAULT;
        }
    }
}
