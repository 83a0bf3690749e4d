import java.util.HashMap;
import java.util.Map;
import java.util.Random;

/** Runs of 512 calls by a seeded chance, each answer compared with the one of Retold. */
final class RandomRunsTest {
    private static final int RUNS = 600;
    private static final int CALLS = 512;
    private static final String[] KINDS = {
        "place", "join", "street", "span", "name", "same", "leads", "leadsAnew", "placeOf", "way", "car", "call",
        "clear", "ofCall", "ofCar", "locker", "post", "take", "ofParcel", "free", "pass", "count",
    };
    private static final int[] WEIGHTS = {1, 1, 1, 3, 9, 1, 6, 6, 2, 2, 1, 6, 9, 8, 5, 1, 6, 6, 8, 4, 10, 5};
    private static final String[] BUILDING = {"place", "join", "join", "street", "span", "span", "name", "locker", "car"};
    private static final int[] EXTREMES = {-1, Integer.MIN_VALUE, Integer.MAX_VALUE, 1000, 0, -2};

    private final Random random;
    private final CompassRolls rolls = new CompassRolls();
    private final Retold retold = new Retold();
    private final Map<String, Integer> told = new HashMap<>();
    private final int nameSpread;
    private final int longestPass;

    private RandomRunsTest(int seed) {
        random = new Random(seed);
        nameSpread = random.nextInt(4) == 0 ? 30 : 2 + random.nextInt(7);
        longestPass = random.nextInt(3) == 0 ? 30 : random.nextInt(2) == 0 ? 1500 : 3001;
    }

    public static void main(String[] args) {
        for (int seed = 0; seed < RUNS; seed++) {
            if (!new RandomRunsTest(seed).isRight(seed)) {
                System.exit(1);
            }
        }
        System.out.println("RandomRunsTest: " + RUNS + " runs of " + CALLS + " calls, 0 wrong");
    }

    private boolean isRight(int seed) {
        for (int i = 0; i < CALLS; i++) {
            // The town is built for the most part ahead of what happens in it.
            String call = i < 70 && random.nextInt(4) != 0 ? BUILDING[below(BUILDING.length)] : anyKind();
            int[] args = arguments(call);
            String want = retold.answer(call, args[0], args[1], args[2], args[3]);
            String got = asked(call, args);
            if (!want.endsWith("Exception")) {
                told.merge(call, 1, Integer::sum);
            }
            if (!want.equals(got)) {
                System.out.println("RandomRunsTest: seed " + seed + ", call " + i + ": " + call + " of "
                    + args[0] + ", " + args[1] + ", " + args[2] + ", " + args[3]
                    + " answered " + got + ", due is " + want);
                return false;
            }
        }
        return true;
    }

    private String anyKind() {
        int sum = 0;
        for (int weight : WEIGHTS) {
            sum += weight;
        }
        int left = random.nextInt(sum);
        int kind = 0;
        while (left >= WEIGHTS[kind]) {
            left -= WEIGHTS[kind];
            kind++;
        }
        return KINDS[kind];
    }

    private int[] arguments(String call) {
        int[] args = usual(call);
        if (random.nextInt(40) == 0) {
            args[random.nextInt(4)] = EXTREMES[random.nextInt(EXTREMES.length)];
        }
        return args;
    }

    private int[] usual(String call) {
        switch (call) {
            case "join": return four(some("place"), some("place"), 1 + below(61), 0);
            case "span": return span();
            case "name": return four(some("street"), name(), 0, 0);
            case "same": return four(name(), name(), 0, 0);
            case "leads": case "leadsAnew": case "call": return four(name(), number(), 0, 0);
            case "placeOf": return four(some("street"), number(), 0, 0);
            case "way": return four(some("place"), some("place"), 0, 0);
            case "car": return four(some("place"), 0, 0, 0);
            case "clear": return four(some("call"), some("street"), 0, 0);
            case "ofCall": return four(some("call"), below(6), 0, 0);
            case "ofCar": return four(some("car"), below(3), 0, 0);
            case "locker": return four(some("place"), below(3), below(3), below(3));
            case "post": return four(name(), number(), below(3), 0);
            case "take": return four(some("post"), 0, 0, 0);
            case "ofParcel": return four(some("post"), below(4), 0, 0);
            case "free": return four(some("locker"), below(3), 0, 0);
            case "pass": return four(minutes(), 0, 0, 0);
            case "count": return four(below(9), 0, 0, 0);
            default: return four(0, 0, 0, 0);
        }
    }

    private static int[] four(int a, int b, int c, int d) {
        return new int[] {a, b, c, d};
    }

    private int below(int bound) {
        return random.nextInt(bound);
    }

    /** One of what was told, seldom the next one, which is not there yet. */
    private int some(String what) {
        int count = told.getOrDefault(what, 0);
        return count == 0 || below(30) == 0 ? count : below(count);
    }

    private int name() {
        return below(nameSpread);
    }

    private int number() {
        return 1 + below(random.nextInt(20) == 0 ? 999 : 40);
    }

    private int[] span() {
        int from = number();
        return four(some("street"), from, Math.min(999, from + below(30)), some("place"));
    }

    private int minutes() {
        return random.nextInt(3) == 0 ? 1 + below(15) : 1 + below(longestPass);
    }

    private String asked(String call, int[] a) {
        try {
            return "" + rollsAnswer(call, a);
        } catch (RuntimeException e) {
            return e.getClass().getSimpleName();
        }
    }

    private int rollsAnswer(String call, int[] a) {
        switch (call) {
            case "place": return rolls.place();
            case "join": return rolls.join(a[0], a[1], a[2]);
            case "street": return rolls.street();
            case "span": return rolls.span(a[0], a[1], a[2], a[3]);
            case "name": return rolls.name(a[0], a[1]);
            case "same": return rolls.same(a[0], a[1]) ? 1 : 0;
            case "leads": return rolls.leads(a[0], a[1]);
            case "leadsAnew": return rolls.leadsAnew(a[0], a[1]);
            case "placeOf": return rolls.placeOf(a[0], a[1]);
            case "way": return rolls.way(a[0], a[1]);
            case "car": return rolls.car(a[0]);
            case "call": return rolls.call(a[0], a[1]);
            case "clear": return rolls.clear(a[0], a[1]);
            case "ofCall": return rolls.ofCall(a[0], a[1]);
            case "ofCar": return rolls.ofCar(a[0], a[1]);
            case "locker": return rolls.locker(a[0], a[1], a[2], a[3]);
            case "post": return rolls.post(a[0], a[1], a[2]);
            case "take": return rolls.take(a[0]);
            case "ofParcel": return rolls.ofParcel(a[0], a[1]);
            case "free": return rolls.free(a[0], a[1]);
            case "pass": return rolls.pass(a[0]);
            case "count": return rolls.count(a[0]);
            default: throw new UnsupportedOperationException(call);
        }
    }
}
