import java.math.BigInteger;
import java.util.ArrayList;
import java.util.Collections;
import java.util.HashSet;
import java.util.List;
import java.util.Set;

/** The document once more, by other and slower ways (all sets, all orders), to compare with. */
final class Naive {
    static final int BAD = -1;
    static final int STATE = -2;
    static final int FULL = -3;
    static final int NONE = -4;

    record Thread(int place, int pair, int knot) {
        int hand() {
            return place / 10;
        }

        int much() {
            return knot / 10;
        }

        int dayOf() {
            return knot % 10;
        }

        String debt() {
            return pair + " " + knot;
        }
    }

    record Image(List<Integer> kinds, List<Thread> threads, int day, List<int[]> seen) {
    }

    static final class Fault extends RuntimeException {
        private static final long serialVersionUID = 1L;
        final int kind;
        final int place;

        Fault(int kind, int place) {
            this.kind = kind;
            this.place = place;
        }
    }

    private StringBuilder tape = new StringBuilder();
    private List<Integer> kinds = new ArrayList<>();
    private List<Thread> threads = new ArrayList<>();
    private int today;
    private List<int[]> seen = new ArrayList<>();
    private final Image[] images = new Image[2];
    private final Object[] sheets = new Object[4];
    private int faultKind;
    private int tornKind;

    // ---- the text

    int feed(int c) {
        if (c < 0 || c > 127) {
            return BAD;
        }
        if (tape.length() == 160) {
            return FULL;
        }
        return tape.append((char) c).length();
    }

    int end(int n) {
        if (n < 0 || n > tape.length()) {
            return BAD;
        }
        int had = tape.length();
        tape.setLength(n);
        return had;
    }

    int text() {
        String text = tape.toString();
        tape = new StringBuilder();
        faultKind = 0;
        try {
            return new Parser(text).all();
        } catch (Fault f) {
            faultKind = f.kind;
            return -10 - f.place;
        }
    }

    private final class Parser {
        final String text;
        int at;
        int start;
        final List<Integer> newKinds = new ArrayList<>();
        final List<Thread> newThreads = new ArrayList<>();
        int newDay = -1;

        Parser(String text) {
            this.text = text;
        }

        String token() {
            while (at < text.length() && text.charAt(at) == ' ') {
                at++;
            }
            start = at;
            String rest = text.substring(at);
            String found = rest.isEmpty() ? "" : rest.replaceAll("(?s)^([a-z]+|[0-9]+|;).*$", "$1");
            if (!found.matches("[a-z]*|[0-9]{1,2}|;")) {
                throw new Fault(1, start);
            }
            at += found.length();
            return found;
        }

        void must(String pattern, String found) {
            if (!found.matches(pattern)) {
                throw new Fault(2, start);
            }
        }

        int number() {
            String found = token();
            must("[0-9]+", found);
            return Integer.parseInt(found);
        }

        int bounded(String pattern) {
            int n = number();
            if (!String.format("%02d", n).matches(pattern)) {
                throw new Fault(3, start);
            }
            return n;
        }

        int all() {
            int lines = 0;
            for (String name = token(); !name.isEmpty(); name = token()) {
                line(name);
                must(";", token());
                lines++;
            }
            behindAll();
            kinds = newKinds;
            threads = newThreads;
            today = Math.max(0, newDay);
            seen = new ArrayList<>();
            images[0] = null;
            images[1] = null;
            return lines;
        }

        void line(String name) {
            must("plain|left|old|founder|day|tie", name);
            if (name.equals("day")) {
                if (newDay >= 0) {
                    throw new Fault(4, start);
                }
                newDay = bounded("0[0-9]");
            } else if (name.equals("tie")) {
                if (newThreads.size() == 10) {
                    throw new Fault(5, start);
                }
                int place = bounded("[0-3][0-4]");
                int pair = bounded("0[123]|1[023]|2[013]|3[012]");
                newThreads.add(new Thread(place, pair, bounded("[1-9][0-9]")));
            } else {
                if (newKinds.size() == 4) {
                    throw new Fault(5, start);
                }
                newKinds.add(List.of("plain", "left", "old", "founder").indexOf(name));
            }
        }

        void behindAll() {
            int n = newKinds.size();
            for (Thread t : newThreads) {
                if (t.hand() >= n || t.pair() / 10 >= n || t.pair() % 10 >= n) {
                    throw new Fault(6, text.length());
                }
            }
            for (int place = 0; place < 10 * n; place++) {
                if (place % 10 < 5 && at(newThreads, place) > room(newKinds.get(place / 10), place % 10)) {
                    throw new Fault(7, text.length());
                }
            }
        }
    }

    int fault() {
        return faultKind;
    }

    private static int room(int kind, int finger) {
        if (kind == 3) {
            return 1;
        }
        if (kind == 0) {
            return 2;
        }
        return finger == 3 ? 0 : kind == 1 ? 2 : 3;
    }

    private static int at(List<Thread> list, int place) {
        return (int) list.stream().filter(t -> t.place() == place).count();
    }

    private List<Integer> places() {
        List<Integer> places = new ArrayList<>();
        for (int c = 0; c < kinds.size(); c++) {
            for (int f = 0; f < 5; f++) {
                places.add(10 * c + f);
            }
        }
        return places;
    }

    private List<Integer> pairs() {
        List<Integer> pairs = new ArrayList<>();
        for (int a = 0; a < kinds.size(); a++) {
            for (int b = 0; b < kinds.size(); b++) {
                if (a != b) {
                    pairs.add(10 * a + b);
                }
            }
        }
        return pairs;
    }

    private int roomAt(int place) {
        return room(kinds.get(place / 10), place % 10);
    }

    private int freeAt(int place) {
        return roomAt(place) - at(threads, place);
    }

    private boolean clerkIs(int c) {
        return c >= 0 && c < kinds.size();
    }

    private boolean threadIs(int t) {
        return t >= 0 && t < threads.size();
    }

    int rule(int what) {
        if (what < 0 || what > 4) {
            return BAD;
        }
        int room = places().stream().mapToInt(this::roomAt).sum();
        int used = (int) threads.stream().map(Thread::place).distinct().count();
        return new int[] {kinds.size(), threads.size(), today, room, used}[what];
    }

    int clerk(int c, int what) {
        if (!clerkIs(c) || what < 0 || what > 3) {
            return BAD;
        }
        int room = places().stream().filter(p -> p / 10 == c).mapToInt(this::roomAt).sum();
        return new int[] {kinds.get(c), on(c), room, 1000 + net(c)}[what];
    }

    private int on(int c) {
        return (int) threads.stream().filter(t -> t.hand() == c).count();
    }

    int finger(int place, int what) {
        if (!places().contains(place) || what < 0 || what > 1) {
            return BAD;
        }
        return what == 0 ? roomAt(place) : at(threads, place);
    }

    int thread(int t, int what) {
        if (!threadIs(t) || what < 0 || what > 3) {
            return BAD;
        }
        Thread it = threads.get(t);
        return new int[] {it.place(), it.pair(), it.knot(), isCopy(threads, t) ? 1 : 0}[what];
    }

    // ---- what is changed

    int tie(int place, int pair, int knot) {
        if (!places().contains(place) || !pairs().contains(pair) || knot < 10 || knot > 99) {
            return BAD;
        }
        if (threads.size() == 10 || freeAt(place) == 0) {
            return FULL;
        }
        threads.add(new Thread(place, pair, knot));
        return threads.size() - 1;
    }

    int cut(int t) {
        if (!threadIs(t)) {
            return BAD;
        }
        threads.remove(t);
        return threads.size();
    }

    int move(int t, int place) {
        if (!threadIs(t) || !places().contains(place)) {
            return BAD;
        }
        Thread it = threads.get(t);
        if (it.place() == place) {
            return STATE;
        }
        if (freeAt(place) == 0) {
            return FULL;
        }
        threads.set(t, new Thread(place, it.pair(), it.knot()));
        return it.place();
    }

    int lose(int c) {
        if (!clerkIs(c)) {
            return BAD;
        }
        int gone = on(c);
        threads.removeIf(t -> t.hand() == c);
        return gone;
    }

    int teach(int c, int kind) {
        if (!clerkIs(c) || kind < 0 || kind > 3) {
            return BAD;
        }
        for (int f = 0; f < 5; f++) {
            if (at(threads, 10 * c + f) > room(kind, f)) {
                return FULL;
            }
        }
        return kinds.set(c, kind);
    }

    int day(int d) {
        if (d < 0 || d > 9) {
            return BAD;
        }
        int was = today;
        today = d;
        return was;
    }

    // ---- what is owed

    private static boolean isCopy(List<Thread> list, int t) {
        Thread it = list.get(t);
        return list.subList(0, t).stream().anyMatch(u -> u.debt().equals(it.debt()) && u.hand() != it.hand());
    }

    private static int owedIn(List<Thread> list, int pair, int latest) {
        int sum = 0;
        for (int t = 0; t < list.size(); t++) {
            Thread it = list.get(t);
            if (it.pair() == pair && it.dayOf() <= latest && !isCopy(list, t)) {
                sum += it.much();
            }
        }
        return sum;
    }

    private int net(int c) {
        int net = 0;
        for (int pair : pairs()) {
            net += pair % 10 == c ? owedIn(threads, pair, 9) : 0;
            net -= pair / 10 == c ? owedIn(threads, pair, 9) : 0;
        }
        return net;
    }

    int owed(int pair, int what) {
        if (!pairs().contains(pair) || what < 0 || what > 1) {
            return BAD;
        }
        return owedIn(threads, pair, what == 0 ? 9 : today);
    }

    int sum(int what) {
        if (what < 0 || what > 2) {
            return BAD;
        }
        int sum = 0;
        if (what == 2) {
            for (int c = 0; c < kinds.size(); c++) {
                sum += net(c) > 0 ? net(c) : 0;
            }
            return sum;
        }
        for (int pair : pairs()) {
            sum += owedIn(threads, pair, what == 0 ? 9 : today);
        }
        return sum;
    }

    private int[] debts() {
        int[] debts = new int[100];
        for (int pair : pairs()) {
            debts[pair] = owedIn(threads, pair, 9);
        }
        return debts;
    }

    private static int least(int[] debts, List<Integer> ring) {
        int least = Integer.MAX_VALUE;
        for (int i = 0; i < ring.size(); i++) {
            least = Math.min(least, debts[10 * ring.get(i) + ring.get((i + 1) % ring.size())]);
        }
        return least;
    }

    private void rings(int[] debts, List<Integer> path, List<List<Integer>> found) {
        if (path.size() > 1 && least(debts, path) > 0) {
            found.add(new ArrayList<>(path));
        }
        for (int c = 0; c < kinds.size(); c++) {
            if (path.isEmpty() || c > path.get(0) && !path.contains(c)) {
                path.add(c);
                rings(debts, path, found);
                path.remove(path.size() - 1);
            }
        }
    }

    private List<Integer> bestRing(int[] debts) {
        List<List<Integer>> found = new ArrayList<>();
        rings(debts, new ArrayList<>(), found);
        found.sort((a, b) -> {
            int gain = least(debts, b) * b.size() - least(debts, a) * a.size();
            if (gain != 0) {
                return gain;
            }
            return a.size() != b.size() ? a.size() - b.size() : a.toString().compareTo(b.toString());
        });
        return found.isEmpty() ? List.of() : found.get(0);
    }

    private int clearIn(int[] debts) {
        int taken = 0;
        for (List<Integer> ring = bestRing(debts); !ring.isEmpty(); ring = bestRing(debts)) {
            int least = least(debts, ring);
            for (int i = 0; i < ring.size(); i++) {
                debts[10 * ring.get(i) + ring.get((i + 1) % ring.size())] -= least;
            }
            taken++;
        }
        return taken;
    }

    int ring(int what) {
        if (what < 0 || what > 1 && what < 10) {
            return BAD;
        }
        int[] debts = debts();
        List<Integer> ring = bestRing(debts);
        if (ring.isEmpty()) {
            return NONE;
        }
        if (what >= 10) {
            return what - 10 < ring.size() ? ring.get(what - 10) : NONE;
        }
        return what == 0 ? least(debts, ring) * ring.size() : ring.size();
    }

    int clear(int what) {
        if (what < 0 || what > 1) {
            return BAD;
        }
        int[] debts = debts();
        int taken = clearIn(debts);
        return what == 1 ? taken : java.util.Arrays.stream(debts).sum();
    }

    int left(int pair) {
        if (!pairs().contains(pair)) {
            return BAD;
        }
        int[] debts = debts();
        clearIn(debts);
        return debts[pair];
    }

    /** Payments along some lines can do it, if the NETS of all that hang together sum to 0. */
    int pays() {
        int best = 99;
        int[][] lines = {{0, 1}, {0, 2}, {0, 3}, {1, 2}, {1, 3}, {2, 3}};
        for (int set = 0; set < 64; set++) {
            int[] group = {0, 1, 2, 3};
            for (int i = 0; i < 6; i++) {
                if ((set >> i & 1) == 1) {
                    int from = group[lines[i][1]];
                    int to = group[lines[i][0]];
                    for (int c = 0; c < 4; c++) {
                        group[c] = group[c] == from ? to : group[c];
                    }
                }
            }
            int[] sums = new int[4];
            for (int c = 0; c < 4; c++) {
                sums[group[c]] += c < kinds.size() ? net(c) : 0;
            }
            if (java.util.Arrays.stream(sums).allMatch(s -> s == 0)) {
                best = Math.min(best, Integer.bitCount(set));
            }
        }
        return best;
    }

    // ---- hands

    int fewest() {
        List<Integer> rooms = new ArrayList<>(places().stream().map(this::roomAt).toList());
        rooms.sort(Collections.reverseOrder());
        int sum = 0;
        int used = 0;
        while (sum < threads.size()) {
            sum += rooms.get(used);
            used++;
        }
        return used;
    }

    int place() {
        int best = NONE;
        for (int p : places()) {
            if (freeAt(p) > 0 && (best == NONE || comesBefore(p, best))) {
                best = p;
            }
        }
        return best;
    }

    private boolean comesBefore(int p, int q) {
        int[] a = {on(p / 10), p / 10, -freeAt(p), p % 10};
        int[] b = {on(q / 10), q / 10, -freeAt(q), q % 10};
        return java.util.Arrays.compare(a, b) < 0;
    }

    private Set<String> debtsWithout(int hands) {
        Set<String> debts = new HashSet<>();
        for (Thread t : threads) {
            if ((hands >> t.hand() & 1) == 0) {
                debts.add(t.debt());
            }
        }
        return debts;
    }

    int risk(int c) {
        return clerkIs(c) ? debtsWithout(0).size() - debtsWithout(1 << c).size() : BAD;
    }

    int copies() {
        for (int n = 0; threads.size() + n <= 10; n++) {
            List<String> debts = new ArrayList<>(debtsWithout(0));
            if (canBeSafe(debts, 0, n)) {
                return n;
            }
        }
        return NONE;
    }

    /** Debts from i on get none or one THREAD more each, on any hand with ROOM. */
    private boolean canBeSafe(List<String> debts, int i, int n) {
        boolean safe = true;
        for (int c = 0; c < kinds.size(); c++) {
            safe &= risk(c) == 0;
        }
        if (safe || n == 0 || i == debts.size()) {
            return safe;
        }
        if (canBeSafe(debts, i + 1, n)) {
            return true;
        }
        String[] debt = debts.get(i).split(" ");
        for (int c = 0; c < kinds.size(); c++) {
            int hand = c;
            int free = places().stream().filter(p -> p / 10 == hand && freeAt(p) > 0).findFirst().orElse(-1);
            if (free >= 0) {
                threads.add(new Thread(free, Integer.parseInt(debt[0]), Integer.parseInt(debt[1])));
                boolean done = canBeSafe(debts, i + 1, n - 1);
                threads.remove(threads.size() - 1);
                if (done) {
                    return true;
                }
            }
        }
        return false;
    }

    int spare(int what) {
        if (what < 0 || what > 1) {
            return BAD;
        }
        for (int most = kinds.size(); most >= 0; most--) {
            for (int hands = 0; hands < 1 << kinds.size(); hands++) {
                if (Integer.bitCount(hands) == most && debtsWithout(hands).equals(debtsWithout(0))) {
                    return what == 0 ? most : hands;
                }
            }
        }
        return NONE;
    }

    int quarrel(int what) {
        if (what < 0 || what > 1) {
            return BAD;
        }
        List<Integer> quarrels = new ArrayList<>();
        for (int i = 0; i < threads.size(); i++) {
            for (int j = i + 1; j < threads.size(); j++) {
                Thread a = threads.get(i);
                Thread b = threads.get(j);
                if (a.hand() != b.hand() && a.pair() == b.pair() && a.dayOf() == b.dayOf() && a.much() != b.much()) {
                    quarrels.add(10 * i + j);
                }
            }
        }
        return what == 0 ? quarrels.size() : quarrels.isEmpty() ? NONE : quarrels.get(0);
    }

    // ---- laundry

    private int odds(int t, int v) {
        int kind = kinds.get(threads.get(t).hand());
        return kind == 3 ? 0 : kind == 2 ? v : 2 * v;
    }

    private interface Worth {
        long of(int slipped);
    }

    /** The mean of a worth over all sets of THREADS that SLIP. */
    private long mean(int v, int what, Worth worth) {
        int n = threads.size();
        BigInteger above = BigInteger.ZERO;
        for (int slipped = 0; slipped < 1 << n; slipped++) {
            BigInteger odds = BigInteger.valueOf(worth.of(slipped));
            for (int t = 0; t < n && odds.signum() != 0; t++) {
                odds = odds.multiply(BigInteger.valueOf((slipped >> t & 1) == 1 ? odds(t, v) : 20 - odds(t, v)));
            }
            above = above.add(odds);
        }
        BigInteger below = BigInteger.valueOf(20).pow(n);
        BigInteger shared = above.gcd(below);
        return (what == 0 ? above : below).divide(shared).longValueExact();
    }

    private static boolean oddsAre(int v, int what) {
        return v >= 0 && v <= 10 && what >= 0 && what <= 1;
    }

    long kept(int v, int t, int what) {
        if (!oddsAre(v, what) || !threadIs(t)) {
            return BAD;
        }
        return mean(v, what, slipped -> {
            for (int u = 0; u < threads.size(); u++) {
                if ((slipped >> u & 1) == 0 && threads.get(u).debt().equals(threads.get(t).debt())) {
                    return 1;
                }
            }
            return 0;
        });
    }

    long slips(int v, int what) {
        return oddsAre(v, what) ? mean(v, what, Integer::bitCount) : BAD;
    }

    long none(int v, int what) {
        return oddsAre(v, what) ? mean(v, what, slipped -> slipped == 0 ? 1 : 0) : BAD;
    }

    // ---- what was cut

    int see(int pair, int much) {
        if (!pairs().contains(pair) || much < 0 || much > 99) {
            return BAD;
        }
        if (seen.size() == 6) {
            return FULL;
        }
        seen.add(new int[] {pair, much});
        return seen.size();
    }

    int forget(int n) {
        if (n < 0 || n > seen.size()) {
            return BAD;
        }
        int were = seen.size();
        seen = new ArrayList<>(seen.subList(0, n));
        return were;
    }

    int fits(int what) {
        if (what < 0 || what > 4) {
            return BAD;
        }
        List<Integer> sets = new ArrayList<>();
        for (int cut = 0; cut < 1 << threads.size(); cut++) {
            List<Thread> rest = new ArrayList<>();
            for (int t = 0; t < threads.size(); t++) {
                if ((cut >> t & 1) == 0) {
                    rest.add(threads.get(t));
                }
            }
            if (seen.stream().allMatch(s -> owedIn(rest, s[0], 9) == s[1])) {
                sets.add(cut);
            }
        }
        if (what == 0) {
            return sets.size();
        }
        if (sets.isEmpty()) {
            return NONE;
        }
        int every = (1 << threads.size()) - 1;
        switch (what) {
            case 1:
                return Collections.min(sets);
            case 2:
                return sets.stream().reduce(every, (a, b) -> a & b);
            case 3:
                return every ^ sets.stream().reduce(0, (a, b) -> a | b);
            default:
                return sets.stream().mapToInt(Integer::bitCount).min().getAsInt();
        }
    }

    // ---- by a seed

    int drift(int seed, int n, int v) {
        if (n < 1 || n > 20 || v < 0 || v > 10) {
            return BAD;
        }
        BigInteger s = BigInteger.valueOf(seed);
        List<Integer> rest = new ArrayList<>();
        for (int t = 0; t < threads.size(); t++) {
            rest.add(t);
        }
        for (int i = 0; i < n; i++) {
            for (int t : List.copyOf(rest)) {
                s = s.multiply(BigInteger.valueOf(1103515245)).add(BigInteger.valueOf(12345));
                s = s.mod(BigInteger.TWO.pow(32));
                if (s.shiftRight(16).mod(BigInteger.TWO.pow(15)).intValue() % 20 < odds(t, v)) {
                    rest.remove((Integer) t);
                }
            }
        }
        return rest.stream().mapToInt(t -> 1 << t).sum();
    }

    // ---- images, sheets

    private Image now() {
        return new Image(new ArrayList<>(kinds), new ArrayList<>(threads), today, new ArrayList<>(seen));
    }

    int keep(int k) {
        if (k < 0 || k > 1) {
            return BAD;
        }
        int was = images[k] == null ? 0 : 1;
        images[k] = now();
        return was;
    }

    int back(int k) {
        if (k < 0 || k > 1) {
            return BAD;
        }
        if (images[k] == null) {
            return STATE;
        }
        kinds = new ArrayList<>(images[k].kinds());
        threads = new ArrayList<>(images[k].threads());
        today = images[k].day();
        seen = new ArrayList<>(images[k].seen());
        return threads.size();
    }

    int sheet(int k, int lane, int n) {
        if (k < 0 || k > 3 || lane < 0 || lane > 2 || n > 40) {
            return BAD;
        }
        try {
            sheets[k] = lane == 0 ? new byte[n] : lane == 1 ? new short[n] : new int[n];
            return 1;
        } catch (NegativeArraySizeException e) {
            return -14;
        }
    }

    private static int machineFault(RuntimeException e) {
        return e instanceof NullPointerException ? 1 : e instanceof IndexOutOfBoundsException ? 2 : 3;
    }

    int lay(int k, int i, int v) {
        if (k < 0 || k > 3) {
            return BAD;
        }
        try {
            if (sheets[k] instanceof byte[] bytes) {
                bytes[i] = (byte) v;
            } else if (sheets[k] instanceof short[] shorts) {
                shorts[i] = (short) v;
            } else {
                ((int[]) sheets[k])[i] = v;
            }
            return 1;
        } catch (NullPointerException | IndexOutOfBoundsException e) {
            return -10 - machineFault(e);
        }
    }

    /** Here the machine itself finds the FAULTS, as the document tells it. */
    int read(int k, int lane, int f, int n) {
        if (k < 0 || k > 3 || lane < 0 || lane > 2 || n < 0 || n > 10) {
            return BAD;
        }
        List<Thread> before = new ArrayList<>(threads);
        int found = 0;
        int i = 0;
        try {
            byte[] bytes = lane == 0 ? (byte[]) sheets[k] : null;
            short[] shorts = lane == 1 ? (short[]) sheets[k] : null;
            int[] ints = lane == 2 ? (int[]) sheets[k] : null;
            for (; i < n; i++) {
                int[] three = new int[3];
                for (int j = 0; j < 3; j++) {
                    int at = f + 3 * i + j;
                    three[j] = lane == 0 ? bytes[at] : lane == 1 ? shorts[at] : ints[at];
                }
                if (tie(three[0], three[1], three[2]) < 0) {
                    threads = before;
                    return -20 - i;
                }
            }
        } catch (NullPointerException | IndexOutOfBoundsException | ClassCastException e) {
            found = machineFault(e);
        }
        tornKind = found;
        return i;
    }

    int torn() {
        return tornKind;
    }

    int count(int what) {
        if (what < 0 || what > 5) {
            return BAD;
        }
        int copies = 0;
        for (int t = 0; t < threads.size(); t++) {
            copies += isCopy(threads, t) ? 1 : 0;
        }
        int pictures = (images[0] == null ? 0 : 1) + (images[1] == null ? 0 : 1);
        int cells = sheets[0] == null ? NONE : java.lang.reflect.Array.getLength(sheets[0]);
        return new int[] {debtsWithout(0).size(), copies, seen.size(), pictures, tape.length(), cells}[what];
    }
}
