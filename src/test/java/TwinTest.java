import java.lang.reflect.InvocationTargetException;
import java.lang.reflect.Method;
import java.lang.reflect.Modifier;
import java.util.Arrays;
import java.util.Comparator;
import java.util.List;
import java.util.Random;

/**
 * Two offices: the first hears every call of a chance run, its twin those alone that are done and tell something. What
 * was refused, and what only asks, must leave no trace: both answer alike ever after.
 * Arguments: the project's folder (not used), how many runs, the first seed.
 */
public final class TwinTest extends Bench {
    private static final List<String> TELL = Arrays.asList("open", "close", "rule", "cell", "giver", "clear", "tear", "block", "hand", "keep",
        "plan", "fewest", "witness", "round", "give");
    private static final List<String> RARE = Arrays.asList("close", "tear", "clear", "rule", "fewest");
    private static final int[] ODD = {LOWEST, -1, 5, 6, 12, 13, 99, 100, 101, 1000, 1001, 100000, 100001, 1000000, 1000001, HIGHEST};

    private static final int[] REFUSED = new int[12];
    private static int wrong = 0;

    private final Random chance;
    private final int seed;
    private final CellKeeper one = new CellKeeper();
    private final CellKeeper twin = new CellKeeper();
    private final StringBuilder log = new StringBuilder();
    private boolean failed = false;

    private TwinTest(int seed) {
        this.seed = seed;
        chance = new Random(seed);
    }

    private void alike(String what, Object a, Object b) {
        if (a.equals(b) || failed) return;
        failed = true;
        wrong++;
        if (wrong <= 3) System.out.println("seed " + seed + ": " + what + "\n  " + a + "\n  " + b + "\n" + log);
    }

    private Object argument(Method call, int p) {
        if (call.getParameterTypes()[p] == boolean.class) return chance.nextInt(3) > 0;
        int pick = chance.nextInt(24);
        if (pick == 0) return ODD[chance.nextInt(ODD.length)];
        boolean first = p == 0 && !Arrays.asList("seen", "rounded", "agree").contains(call.getName());
        if (first) return chance.nextInt(8) == 0 ? chance.nextInt(6) : chance.nextInt(2);
        if (call.getName().equals("cell") && p == 3) return chance.nextInt(3) > 0 ? 1 : chance.nextInt(5);
        return chance.nextInt(pick == 1 ? 12 : 4);
    }

    private static Object invoke(Method call, CellKeeper on, Object[] with) {
        try {
            return call.invoke(on, with);
        } catch (InvocationTargetException thrown) {
            return thrown.getCause().toString();
        } catch (IllegalAccessException never) {
            return never.toString();
        }
    }

    private void step(Method call) {
        if (RARE.contains(call.getName()) && chance.nextInt(4) > 0) return;
        Object[] with = new Object[call.getParameterCount()];
        for (int p = 0; p < with.length; p++) with[p] = argument(call, p);
        Object got = invoke(call, one, with);
        log.append(call.getName()).append(Arrays.toString(with)).append(" -> ").append(got).append(", ").append(one.status()).append('\n');
        boolean tells = TELL.contains(call.getName());
        if (one.status() != 0 && tells) REFUSED[one.status()]++;
        if (one.status() != 0 || !tells) return;
        alike(call.getName(), got, invoke(call, twin, with));
        alike("status", one.status(), twin.status());
    }

    private static String stateOf(CellKeeper which) {
        x = which;
        return state();
    }

    /** What a secret hides: whether it was told to be kept besides, and how many blocks there are. */
    private void reveal() {
        for (CellKeeper which : new CellKeeper[] {one, twin}) {
            for (int t = 0; t < 6; t++) {
                for (int k = 0; k < 3; k++) which.rule(t, k, 0);
                for (int k = 0; k < 144; k++) which.hand(t, k / 12, k % 12, false);
            }
        }
        alike("what was hidden", stateOf(one), stateOf(twin));
        for (int t = 0; t < 6; t++)
            for (int k = 0; k < 12; k++) alike("block", one.block(t, k, k), twin.block(t, k, k));
    }

    private void go(Method[] calls) {
        for (int k = 0; k < 2; k++) {
            one.open(k, 3, 3);
            twin.open(k, 3, 3);
            for (int p = 0; p < 9; p++) {
                int kind = chance.nextInt(6) == 0 ? 3 : 1;
                int number = chance.nextInt(12);
                one.cell(k, p / 3, p % 3, kind, number);
                twin.cell(k, p / 3, p % 3, kind, number);
            }
        }
        for (int k = 0; k < 300 && !failed; k++) {
            step(calls[chance.nextInt(calls.length)]);
            if (k % 60 == 59) alike("state", stateOf(one), stateOf(twin));
        }
        reveal();
    }

    public static void main(String[] args) {
        Method[] calls = Arrays.stream(CellKeeper.class.getDeclaredMethods())
            .filter(m -> Modifier.isPublic(m.getModifiers()))
            .sorted(Comparator.comparing(Method::getName)).toArray(Method[]::new);
        int runs = args.length > 1 ? Integer.parseInt(args[1]) : 600;
        int from = args.length > 2 ? Integer.parseInt(args[2]) : 0;
        for (int seed = from; seed < from + runs; seed++) new TwinTest(seed).go(calls);
        System.out.println("TwinTest: " + runs + " runs, refused with status 1 to 10: "
            + Arrays.toString(Arrays.copyOfRange(REFUSED, 1, 11)) + ", " + wrong + " wrong");
        if (wrong != 0) System.exit(1);
    }
}
