import java.lang.reflect.InvocationTargetException;
import java.lang.reflect.Method;
import java.lang.reflect.Modifier;
import java.util.Arrays;
import java.util.Comparator;
import java.util.Random;

/** Any call with any arguments in any state: none may throw, and one that is refused answers NONE or false. */
public final class AnyCallTest {
    private static final int[] ODD = {Integer.MIN_VALUE, -1000001, -2, -1, 6, 11, 12, 13, 99, 100, 1000, 100001, 1000000, 1000001, Integer.MAX_VALUE};

    private static int wrong = 0;

    private static Object argument(Class<?> type, Random chance, int side) {
        if (type == boolean.class) return chance.nextBoolean();
        int pick = chance.nextInt(30);
        if (pick == 0) return ODD[chance.nextInt(ODD.length)];
        return pick == 1 ? chance.nextInt(1000001) : chance.nextInt(side);
    }

    private static void run(int seed, Method[] calls) throws IllegalAccessException {
        Random chance = new Random(seed);
        CellKeeper x = new CellKeeper();
        int side = 1 + chance.nextInt(12);
        x.open(0, side, 1 + chance.nextInt(12));
        for (int k = 0; k < 144; k++) if (chance.nextInt(50) > 0) x.cell(0, k / 12, k % 12, 1 + 2 * chance.nextInt(2), chance.nextInt(9));
        for (int k = 0; k < 360; k++) {
            Method call = calls[chance.nextInt(calls.length)];
            if ((call.getName().equals("close") || call.getName().equals("tear")) && chance.nextInt(8) > 0) continue;
            Class<?>[] types = call.getParameterTypes();
            Object[] with = new Object[types.length];
            for (int p = 0; p < with.length; p++) with[p] = argument(types[p], chance, p == 0 ? 1 + chance.nextInt(2) : side + 1);
            int before = x.status();
            try {
                Object got = call.invoke(x, with);
                boolean quiet = Arrays.asList("status", "seen", "cut", "rounded", "gift", "agree").contains(call.getName());
                if (quiet ? x.status() != before : x.status() != 0 && !got.equals(-1) && !got.equals(false)) {
                    wrong++;
                    System.out.println("seed " + seed + ": " + call.getName() + Arrays.toString(with) + " answered " + got + " with " + x.status());
                }
            } catch (InvocationTargetException thrown) {
                wrong++;
                System.out.println("seed " + seed + ": " + call.getName() + Arrays.toString(with) + " threw " + thrown.getCause());
            }
        }
    }

    public static void main(String[] args) throws IllegalAccessException {
        Method[] calls = Arrays.stream(CellKeeper.class.getDeclaredMethods())
            .filter(m -> Modifier.isPublic(m.getModifiers()))
            .sorted(Comparator.comparing(Method::getName)).toArray(Method[]::new);
        int runs = args.length > 1 ? Integer.parseInt(args[1]) : 2000;
        for (int seed = 0; seed < runs; seed++) run(seed, calls);
        System.out.println("AnyCallTest: " + runs + " runs of " + calls.length + " kinds of calls, " + wrong + " wrong");
        if (wrong != 0) System.exit(1);
    }
}
