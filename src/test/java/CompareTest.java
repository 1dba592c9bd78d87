import java.util.Random;

/**
 * Runs of chance calls (from fixed seeds), on CellKeeper and on PlainOffice: each answer must be the same.
 * Arguments: the project's folder (not used), how many runs, the first seed.
 */
public final class CompareTest {
    private static int wrong = 0;
    /** Rows, columns and numbers at most: no more than PlainOffice can list the tables of. */
    private static final int[][] SHAPES = {{2, 2, 60}, {3, 3, 7}, {3, 3, 12}, {4, 3, 5}, {3, 4, 4}, {4, 4, 3}, {7, 2, 5}, {2, 6, 4}, {6, 3, 2}};

    private final Random chance;
    private final CellKeeper keeper = new CellKeeper();
    private final PlainOffice plain = new PlainOffice();
    private final StringBuilder log = new StringBuilder();
    private final int seed;
    private final int rowsAtMost;
    private final int columnsAtMost;
    private final int most;
    private boolean failed = false;

    private CompareTest(int seed) {
        this.seed = seed;
        chance = new Random(seed);
        int shape = chance.nextInt(SHAPES.length);
        rowsAtMost = SHAPES[shape][0];
        columnsAtMost = SHAPES[shape][1];
        most = SHAPES[shape][2];
    }

    private void same(String call, long got, long want) {
        log.append(call).append(" -> ").append(got).append('\n');
        int a = keeper.status();
        if (failed || got == want && a == plain.status) return;
        failed = true;
        wrong++;
        if (wrong > 3) return;
        System.out.println("seed " + seed + ": " + call + " answered " + got + " with status " + a + ", due is " + want + " with " + plain.status);
        System.out.println(log);
    }

    private void same(String call, boolean got, boolean want) { same(call, got ? 1 : 0, want ? 1 : 0); }

    private int in(int n) { return chance.nextInt(n); }

    private boolean rarely() { return in(25) == 0; }

    private int oddly(int usual) { return rarely() ? in(16) - 2 : usual; }

    private int oneTable() { return oddly(in(10) < 9 ? 0 : 1); }

    private int size(int atMost) { return in(4) > 0 ? atMost : 1 + in(atMost); }

    private int oneRow() { return oddly(in(rowsAtMost)); }

    private int oneColumn() { return oddly(in(columnsAtMost)); }

    private void fill(int t, int rows, int columns) {
        boolean amounts = in(3) == 0;
        boolean shares = in(3) == 0;
        int zeros = in(3);
        for (int i = 0; i < rows; i++)
            for (int j = 0; j < columns; j++) {
                if (in(100) == 0) continue;
                int pick = in(20);
                if (pick == 0 && in(5) == 0) cell(t, i, j, 0, 1 + in(99));
                else if (pick < zeros) cell(t, i, j, 4, 0);
                else if (pick < 8 && amounts) {
                    cell(t, i, j, 2, 0);
                    for (int k = in(4); k > 0; k--) giver(t, i, j, 1 + in(most));
                } else if (pick < 14 && shares) cell(t, i, j, 3, in(most + 1));
                else cell(t, i, j, 1, in(most + 1));
            }
    }

    private void cell(int t, int i, int j, int kind, int n) {
        same("cell(" + t + ", " + i + ", " + j + ", " + kind + ", " + n + ")", keeper.cell(t, i, j, kind, n), plain.cell(t, i, j, kind, n));
    }

    private void open(int t, int rows, int columns) {
        boolean done = keeper.open(t, rows, columns);
        same("open(" + t + ", " + rows + ", " + columns + ")", done, plain.open(t, rows, columns));
        if (!done) return;
        if (in(4) > 0) rule(t, 0, in(3));
        fill(t, rows, columns);
        for (int k = in(2) * in(4); k > 0; k--) block(t, in(rows), in(rows));
    }

    private void rule(int t, int which, int n) {
        same("rule(" + t + ", " + which + ", " + n + ")", keeper.rule(t, which, n), plain.rule(t, which, n));
    }

    private void block(int t, int first, int last) {
        same("block(" + t + ", " + first + ", " + last + ")", keeper.block(t, first, last), plain.block(t, first, last));
    }

    private void giver(int t, int i, int j, int part) {
        same("giver(" + t + ", " + i + ", " + j + ", " + part + ")", keeper.giver(t, i, j, part), plain.giver(t, i, j, part));
    }

    private void tell() {
        int t = oneTable();
        int i = oneRow();
        int j = oneColumn();
        boolean on = in(3) > 0;
        switch (in(13)) {
            case 0: {
                boolean odd = rarely();
                open(t, odd ? 13 * in(2) : size(rowsAtMost), odd ? in(3) - 1 : size(columnsAtMost));
                break;
            }
            case 1:
                if (in(4) == 0) same("close(" + t + ")", keeper.close(t), plain.close(t));
                break;
            case 2: {
                int which = oddly(in(6));
                int n = which == 0 ? in(3) : which == 5 ? in(2) : which == 2 ? 10 * in(8) : which == 1 ? in(7) : in(5);
                n = rarely() ? 1000001 * (in(3) - 1) : n;
                rule(t, which, n);
                break;
            }
            case 3:
                cell(t, i, j, oddly(in(6) % 5), rarely() ? in(4) * 1000001 - 1 : in(most + 1));
                break;
            case 4:
                giver(t, i, j, rarely() ? 100001 * in(2) : 1 + in(most));
                break;
            case 5:
                if (in(8) == 0) same("clear(" + t + ", " + i + ", " + j + ")", keeper.clear(t, i, j), plain.clear(t, i, j));
                break;
            case 6: {
                int n = in(columnsAtMost + 3) - 1;
                if (in(10) == 0) same("tear(" + t + ", " + i + ", " + n + ")", keeper.tear(t, i, n), plain.tear(t, i, n));
                break;
            }
            case 7:
                if (in(3) == 0) block(t, i, oddly(i + in(3) - 1));
                break;
            case 8:
                if (in(2) == 0) same("hand(" + t + ", " + i + ", " + j + ", " + on + ")", keeper.hand(t, i, j, on), plain.hand(t, i, j, on));
                break;
            default:
                same("keep(" + t + ", " + i + ", " + j + ", " + on + ")", keeper.keep(t, i, j, on), plain.keep(t, i, j, on));
        }
    }

    private void ask() {
        int t = oneTable();
        int i = oneRow();
        int j = oneColumn();
        String at = "(" + t + ", " + i + ", " + j + ")";
        switch (in(19)) {
            case 0: same("kind" + at, keeper.kind(t, i, j), plain.kind(t, i, j)); break;
            case 1: same("number" + at, keeper.number(t, i, j), plain.number(t, i, j)); break;
            case 2: same("givers" + at, keeper.givers(t, i, j), plain.givers(t, i, j)); break;
            case 3: {
                int k = in(8) - 1;
                same("part" + at + k, keeper.part(t, i, j, k), plain.part(t, i, j, k));
                break;
            }
            case 4: same("sound" + at, keeper.sound(t, i), plain.sound(t, i)); break;
            case 5: same("sum" + at, keeper.sum(t, i), plain.sum(t, i)); break;
            case 6: same("total" + at, keeper.total(t, i, j), plain.total(t, i, j)); break;
            case 7: same("secret" + at, keeper.secret(t, i, j), plain.secret(t, i, j)); break;
            case 8: same("kept" + at, keeper.kept(t, i, j), plain.kept(t, i, j)); break;
            case 9: same("thousandths" + at, keeper.thousandths(t, i, j), plain.thousandths(t, i, j)); break;
            case 10: same("least" + at, keeper.least(t, i, j), plain.least(t, i, j)); break;
            case 11: same("greatest" + at, keeper.greatest(t, i, j), plain.greatest(t, i, j)); break;
            case 12: same("safe" + at, keeper.safe(t, i, j), plain.safe(t, i, j)); break;
            case 13: same("unsafe" + at, keeper.unsafe(t), plain.unsafe(t)); break;
            case 14: same("cost" + at, keeper.cost(t), plain.cost(t)); break;
            case 15:
                same("agree(" + i + ", " + j + ")", keeper.agree(i, j), plain.agree(i, j));
                break;
            default: {
                boolean top = in(2) == 0;
                same("witness" + at + top, keeper.witness(t, i, j, top), plain.witness(t, i, j, top));
                lookAtLeaves();
            }
        }
    }

    private void lookAtLeaves() {
        for (int i = -1; i < 8; i++) {
            for (int j = -1; j < 7; j++) {
                same("seen(" + i + ", " + j + ")", keeper.seen(i, j), plain.seen(i, j));
                same("rounded(" + i + ", " + j + ")", keeper.rounded(i, j), plain.rounded(i, j));
            }
            same("cut(true, " + i + ")", keeper.cut(true, i), plain.cut(true, i));
            same("cut(false, " + i + ")", keeper.cut(false, i), plain.cut(false, i));
        }
    }

    private void guard() {
        int t = oneTable();
        switch (in(4)) {
            case 0: same("plan(" + t + ")", keeper.plan(t), plain.plan(t)); break;
            case 1: same("fewest(" + t + ")", keeper.fewest(t), plain.fewest(t)); break;
            case 2: {
                int base = rarely() ? 999 + in(3) : 1 + in(12);
                same("round(" + t + ", " + base + ")", keeper.round(t, base), plain.round(t, base));
                lookAtLeaves();
                break;
            }
            default: {
                same("give(" + t + ")", keeper.give(t), plain.give(t));
                int k = in(6) - 1;
                for (int i = -1; i < 8; i++)
                    for (int j = -1; j < 7; j++) same("gift(" + k + ", " + i + ", " + j + ")", keeper.gift(k, i, j), plain.gift(k, i, j));
            }
        }
        for (int i = 0; i < rowsAtMost; i++)
            for (int j = 0; j < columnsAtMost; j++) same("kept(" + t + ", " + i + ", " + j + ")", keeper.kept(t, i, j), plain.kept(t, i, j));
    }

    private void go() {
        if (!rarely()) open(0, size(rowsAtMost), size(columnsAtMost));
        for (int call = 0; call < 90 && !failed; call++) {
            int pick = in(10);
            if (pick < 5) tell();
            else if (pick < 8) ask();
            else guard();
        }
    }

    public static void main(String[] args) {
        int runs = args.length > 1 ? Integer.parseInt(args[1]) : 1500;
        int from = args.length > 2 ? Integer.parseInt(args[2]) : 0;
        for (int seed = from; seed < from + runs; seed++) new CompareTest(seed).go();
        System.out.println("CompareTest: " + runs + " runs, " + wrong + " wrong");
        if (wrong != 0) System.exit(1);
    }
}
