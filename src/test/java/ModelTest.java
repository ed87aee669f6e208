import java.lang.reflect.InvocationTargetException;
import java.lang.reflect.Method;
import java.util.ArrayList;
import java.util.Arrays;
import java.util.List;
import java.util.Random;

/** Runs of calls by a fixed seed, on ThreadBank and on Naive side by side; wild numbers among them. */
public final class ModelTest {
    private static final Due DUE = new Due("ModelTest");
    private static final int RUNS = 1200;
    private static final int CALLS = 160;
    private static final int[] WILD = {Integer.MIN_VALUE, Integer.MIN_VALUE + 1, -1000, -11, -10, -2, -1, 10, 40, 44,
        99, 100, 128, 1000, Integer.MAX_VALUE - 2, Integer.MAX_VALUE - 1, Integer.MAX_VALUE};
    private static final String[] WORDS = {"plain", "left", "old", "founder", "day", "tie", ";", " ", "5", "31", "123",
        "pl", "A", "~", "tie 0 1 10;", "tie 10 1 10;", "plain;", "old;", "day 3;", "tie 21 12 47 ;"};

    private final Random random;
    private final ThreadBank bank = new ThreadBank();
    private final Naive naive = new Naive();
    private final List<Method> banks = new ArrayList<>();
    private final StringBuilder story = new StringBuilder();
    private boolean sound = true;

    private ModelTest(long seed) {
        random = new Random(seed);
        for (Method method : ThreadBank.class.getMethods()) {
            if (method.getDeclaringClass() == ThreadBank.class) {
                banks.add(method);
            }
        }
        banks.sort((a, b) -> a.getName().compareTo(b.getName()));
    }

    public static void main(String[] args) throws Exception {
        for (int seed = 0; seed < RUNS; seed++) {
            new ModelTest(seed).run();
        }
        DUE.end();
    }

    private void run() throws Exception {
        tellText();
        for (int i = 0; i < CALLS && sound; i++) {
            int kind = random.nextInt(20);
            if (kind == 0) {
                tellText();
            } else if (kind == 1) {
                tellSheet();
            } else if (kind < 6) {
                call(named("tie"), tying());
            } else {
                Method method = banks.get(random.nextInt(banks.size()));
                boolean seldom = method.getName().matches("text|lose|kept|slips|none") && random.nextInt(4) > 0;
                if (!seldom) {
                    call(method, numbersFor(method));
                }
            }
        }
    }

    private Method named(String name) {
        return banks.stream().filter(m -> m.getName().equals(name)).findFirst().orElseThrow();
    }

    private void call(Method method, int... numbers) throws Exception {
        Object[] boxed = Arrays.stream(numbers).boxed().toArray();
        Method other = Naive.class.getDeclaredMethod(method.getName(), method.getParameterTypes());
        String shown = method.getName() + Arrays.toString(numbers);
        story.append(shown).append(' ');
        boolean guard = random.nextInt(8) == 0 && !method.getName().equals("text");
        String before = guard ? Due.all(bank) : "";
        long got;
        try {
            got = ((Number) method.invoke(bank, boxed)).longValue();
        } catch (InvocationTargetException e) {
            DUE.is(story.toString(), "threw " + e.getCause(), "an answer");
            sound = false;
            return;
        }
        long want = ((Number) other.invoke(naive, boxed)).longValue();
        sound = got == want;
        DUE.is(sound ? shown : story.toString(), got, want);
        if (guard && got < 0) {
            DUE.is("state behind " + shown, Due.all(bank), before);
        }
    }

    private int[] numbersFor(Method method) {
        int[] numbers = new int[method.getParameterCount()];
        for (int i = 0; i < numbers.length; i++) {
            numbers[i] = number(method.getName(), i);
        }
        return numbers;
    }

    private int number(String name, int i) {
        if (random.nextInt(25) == 0) {
            return WILD[random.nextInt(WILD.length)];
        }
        switch (name + i) {
            case "feed0":
                return random.nextInt(130) - 1;
            case "finger0": case "move1":
                return placeOf();
            case "owed0": case "left0": case "see0":
                return pairOf();
            case "see1":
                return random.nextInt(12);
            case "ring0":
                return random.nextInt(2) == 0 ? random.nextInt(2) : 10 + random.nextInt(5);
            case "drift0":
                return random.nextInt();
            case "drift1":
                return random.nextInt(22);
            case "kept0": case "slips0": case "none0": case "drift2":
                return random.nextInt(12);
            case "sheet2": case "lay1": case "read2":
                return random.nextInt(14) - 1;
            case "lay2":
                return random.nextInt(50);
            case "thread0": case "cut0": case "move0": case "kept1": case "day0":
                return random.nextInt(10);
            default:
                return random.nextInt(5);
        }
    }

    private int placeOf() {
        return 10 * random.nextInt(4) + random.nextInt(5);
    }

    private int pairOf() {
        int debtor = random.nextInt(4);
        return 10 * debtor + (random.nextInt(12) == 0 ? debtor : (debtor + 1 + random.nextInt(3)) % 4);
    }

    /** Few PAIRS and KNOTS, so that COPIES, RINGS and quarrels come to be. */
    private int[] tying() {
        int knot = random.nextInt(3) == 0 ? 10 + random.nextInt(90) : 10 * (2 + random.nextInt(3)) + random.nextInt(2);
        return new int[] {placeOf(), pairOf(), knot};
    }

    private void tellText() throws Exception {
        StringBuilder text = new StringBuilder();
        if (random.nextInt(4) == 0) {
            for (int i = random.nextInt(14); i > 0; i--) {
                text.append(WORDS[random.nextInt(WORDS.length)]);
            }
        } else {
            String[] kinds = {"plain;", "left ;", "old;", "founder;"};
            for (int i = 2 + random.nextInt(7) / 2; i > 0; i--) {
                text.append(kinds[random.nextInt(4)]);
            }
            if (random.nextInt(2) == 0) {
                text.append("day ").append(random.nextInt(10)).append(';');
            }
            for (int i = random.nextInt(8); i > 0; i--) {
                int[] tie = tying();
                text.append("tie ").append(tie[0]).append(' ').append(tie[1]).append(' ').append(tie[2]).append(';');
            }
        }
        for (int i = 0; i < text.length() && sound; i++) {
            call(named("feed"), text.charAt(i));
        }
        call(named("text"));
        call(named("fault"));
    }

    private void tellSheet() throws Exception {
        int k = random.nextInt(4);
        int lane = random.nextInt(3);
        int n = random.nextInt(5);
        call(named("sheet"), k, lane, 3 * n + random.nextInt(3));
        for (int i = 0; i < n && sound; i++) {
            int[] tie = tying();
            for (int j = 0; j < 3; j++) {
                call(named("lay"), k, 3 * i + j, tie[j]);
            }
        }
        call(named("read"), k, random.nextInt(8) == 0 ? random.nextInt(3) : lane, 0, random.nextInt(n + 2));
        call(named("torn"));
    }
}
