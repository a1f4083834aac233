import java.lang.reflect.InvocationTargetException;
import java.lang.reflect.Method;
import java.lang.reflect.Modifier;
import java.util.Arrays;
import java.util.HashMap;
import java.util.Map;
import java.util.Random;

/**
 * Long runs of calls (the same ones each time): each answer is compared with the model's, and no
 * basket may be opened for an older book once a newer one was reported active.
 */
public final class RandomRunTest {
    private static final int RUNS = 3000;
    // Three calls of the program each at the most, of 512.
    private static final int STEPS = 170;
    private static final String[] CALLS = {
        "article", "bundle", "publish", "activate", "tick", "rate", "fetch", "ready", "ask", "giveUp",
        "lease", "loaded", "deliver", "lose", "twin", "letter", "letters", "open", "scan", "pay", "book",
        "price", "restart",
    };

    private static final Map<Class<?>, Map<String, Method>> METHODS = new HashMap<>();

    private final Random random;
    private final int[] weights = new int[CALLS.length];
    private final PriceHouse house = new PriceHouse();
    private final PlainModel model = new PlainModel();
    private final StringBuilder told = new StringBuilder();
    private int reported = 0;

    private RandomRunTest(int seed) {
        random = new Random(seed);
        // Each run has a taste of its own, so that rare states come up in some of them.
        for (int k = 0; k < weights.length; k++) {
            weights[k] = 1 + random.nextInt(8);
        }
        favour("deliver", 40);
        favour("ask", 12);
        favour("open", 12);
        favour("scan", random.nextInt(60));
        favour("tick", 8);
        favour("lose", 2);
        favour("restart", random.nextInt(3));
    }

    private void favour(String call, int weight) {
        weights[Arrays.asList(CALLS).indexOf(call)] = weight;
    }

    public static void main(String[] args) {
        for (int seed = 0; seed < RUNS; seed++) {
            new RandomRunTest(seed).run(seed);
        }
        Check.end();
    }

    private void run(int seed) {
        for (int step = 0; step < STEPS; step++) {
            String call = pick();
            int[] in = arguments(call);
            String due = answer(model, call, in);
            String got = answer(house, call, in);
            told.append(call).append(Arrays.toString(in)).append(" -> ").append(got).append("\n");
            if (!got.equals(due)) {
                Check.fail("run " + seed + ":\n" + told + "due is " + due);
                return;
            }
            if (call.equals("open") && !got.startsWith("throws") && house.book(Integer.parseInt(got)) < reported) {
                Check.fail("run " + seed + ":\n" + told + "book " + reported + " was reported active before");
                return;
            }
            reported = house.active();
            if (reported != model.active()) {
                Check.fail("run " + seed + ":\n" + told + "active is " + reported + ", due is " + model.active());
                return;
            }
        }
    }

    private String pick() {
        int sum = 0;
        for (int w : weights) {
            sum += w;
        }
        int left = random.nextInt(sum);
        int k = 0;
        while (left >= weights[k]) {
            left -= weights[k];
            k++;
        }
        return CALLS[k];
    }

    /** Four numbers, mostly such as the call takes. */
    private int[] arguments(String call) {
        switch (call) {
            case "article":
                return new int[] {about(0, 7), cents(), 0, 0};
            case "bundle":
                return new int[] {about(0, 7), about(0, 1), about(0, 12), cents()};
            case "activate":
                return new int[] {about(1, 9), 0, 0, 0};
            case "tick":
                return new int[] {random.nextInt(20) == 0 ? about(1, 500) : about(1, 30), 0, 0, 0};
            case "rate":
                return new int[] {about(0, 4), about(99, 101), 0, 0};
            case "deliver": case "lose": case "twin": case "letter":
                return new int[] {letterIndex(), about(0, 3), 0, 0};
            case "scan":
                return new int[] {about(0, 4), about(0, 2), random.nextInt(4) == 0 ? about(-1, 1) : 1, 0};
            case "pay": case "book":
                return new int[] {about(0, 20), 0, 0, 0};
            case "price":
                return new int[] {about(1, 4), about(0, 7), 0, 0};
            case "restart":
                return new int[] {about(0, 4), 0, 0, 0};
            default:
                return new int[] {about(0, 3), 0, 0, 0};
        }
    }

    private int about(int least, int most) {
        int wide = random.nextInt(40) == 0 ? 1 : 0;
        return least - wide + random.nextInt(most - least + 1 + 2 * wide);
    }

    private int cents() {
        return random.nextInt(30) == 0 ? about(9999999, 10000000) : about(0, 300);
    }

    private int letterIndex() {
        int there = house.letters();
        if (there == 0) {
            return about(0, 0);
        }
        return random.nextInt(3) == 0 ? there - 1 : about(0, there - 1);
    }

    /** What a call of the program or of the model answers, as a text. */
    private static String answer(Object x, String call, int[] in) {
        try {
            Method method = METHODS.computeIfAbsent(x.getClass(), RandomRunTest::methodsOf).get(call);
            Object[] taken = Arrays.stream(in).limit(method.getParameterCount()).boxed().toArray();
            return String.valueOf(method.invoke(x, taken));
        } catch (InvocationTargetException e) {
            return "throws." + e.getCause().getClass().getSimpleName();
        } catch (IllegalAccessException e) {
            throw new AssertionError(e);
        }
    }

    private static Map<String, Method> methodsOf(Class<?> owner) {
        Map<String, Method> methods = new HashMap<>();
        for (Method m : owner.getDeclaredMethods()) {
            if (!Modifier.isPrivate(m.getModifiers())) {
                methods.put(m.getName(), m);
            }
        }
        return methods;
    }
}
