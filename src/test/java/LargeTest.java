import java.util.ArrayDeque;
import java.util.ArrayList;
import java.util.List;
import java.util.Random;

/**
 * Tables up to 12 by 12 with numbers up to a million, too great to list what agrees with them. Each answer is proved
 * from what it gives: a witness agrees, no step leaves its cut, and no later cells could make an earlier one less.
 */
public final class LargeTest {
    private static int wrong = 0;
    private static int looked = 0;

    private final Random chance;
    private final int seed;
    private final CellKeeper x = new CellKeeper();
    private int rows;
    private int columns;
    private int[][] kind;
    private int[][] number;
    private boolean[] sound;
    private int[] group;
    private final List<int[]> blocks = new ArrayList<>();

    private LargeTest(int seed) {
        this.seed = seed;
        chance = new Random(seed);
    }

    private void hold(boolean holds, String what) {
        looked++;
        if (holds) return;
        wrong++;
        if (wrong < 20) System.out.println("seed " + seed + ": " + what);
    }

    private int in(int n) { return chance.nextInt(n); }

    // ---- a table by chance

    private void build(int mostFree) {
        rows = 2 + in(11);
        columns = 2 + in(11);
        int most = new int[] {3, 30, 1000, 1000000}[in(4)];
        int zeros = in(4);
        int keeps = 1 + in(10);
        int shares = in(3) == 0 ? 4 : 0;
        hold(x.open(0, rows, columns), "open");
        x.rule(0, 0, in(2) * in(4));
        kind = new int[rows][columns];
        number = new int[rows][columns];
        int free = 0;
        for (int i = 0; i < rows; i++)
            for (int j = 0; j < columns; j++) {
                int pick = in(12);
                kind[i][j] = pick < zeros ? 4 : pick < zeros + shares ? 3 : 1;
                number[i][j] = kind[i][j] == 4 ? 0 : in(most + 1);
                boolean hand = kind[i][j] != 4 && in(20) == 0;
                if (mostFree >= 0 && kind[i][j] != 4) {
                    hand = free >= mostFree || in(rows * columns) > mostFree;
                    if (!hand) free++;
                }
                hold(x.cell(0, i, j, kind[i][j], number[i][j]), "cell");
                if (hand) hold(x.hand(0, i, j, true), "hand");
                if (kind[i][j] != 4 && in(10) < keeps) hold(x.keep(0, i, j, true), "keep");
            }
        if (in(3) == 0) x.clear(0, in(rows), in(columns));
        if (in(3) == 0) x.tear(0, in(rows), in(columns));
        for (int k = in(3) * in(4); k > 0; k--) {
            int first = in(rows);
            int last = first + in(rows - first);
            if (x.block(0, first, last) > 0) blocks.add(new int[] {first, last});
        }
        x.rule(0, 3, in(2) == 0 ? 1 : in(most + 1));
        x.rule(0, 4, in(2) == 0 ? 1 : in(most + 1));
        x.rule(0, 5, in(2));
        lookAtRows();
    }

    private void lookAtRows() {
        sound = new boolean[rows];
        group = new int[rows];
        for (int i = 0; i < rows; i++) {
            sound[i] = x.sound(0, i) == 1;
            int size = 99;
            for (int[] b : blocks)
                if (b[0] <= i && i <= b[1] && b[1] - b[0] < size) {
                    size = b[1] - b[0];
                    group[i] = 100 * b[0] + b[1] + 1;
                }
        }
    }

    private long rowSum(int i) {
        long s = 0;
        for (int n : number[i]) s += n;
        return s;
    }

    private boolean kept(int i, int j) { return x.kept(0, i, j) == 1; }

    /** Whether a kept cell alone could have a number, by its thousandths. */
    private boolean fits(int i, int j, long v) {
        if (v < 0) return false;
        long s = rowSum(i);
        return kind[i][j] != 3 || s == 0 || 1000 * v / s == 1000L * number[i][j] / s;
    }

    // ---- spans

    private void spans() {
        boolean[][] kept = new boolean[rows][columns];
        for (int i = 0; i < rows; i++)
            for (int j = 0; j < columns; j++) kept[i][j] = sound[i] && kept(i, j);
        int unsafe = 0;
        for (int i = 0; i < rows; i++) {
            if (!sound[i]) continue;
            for (int j = 0; j < columns; j++) {
                int least = x.least(0, i, j);
                int greatest = x.greatest(0, i, j);
                boolean low = least == 0 || least <= number[i][j] - down();
                boolean safe = low && greatest >= number[i][j] + up();
                hold(x.safe(0, i, j) == (safe ? 1 : 0), "safe of " + i + ", " + j);
                if (x.secret(0, i, j) > 0 && !safe) unsafe++;
                if (in(6) > 0) continue;
                hold(x.witness(0, i, j, false) == least, "least of " + i + ", " + j);
                proveEnd(kept, i, j, false);
                hold(x.witness(0, i, j, true) == greatest, "greatest of " + i + ", " + j);
                proveEnd(kept, i, j, true);
            }
        }
        hold(x.unsafe(0) == unsafe, "unsafe");
        cost(kept);
        hold(x.give(0) == (unsafe == 0 ? 0 : -1), "give");
    }

    private void cost(boolean[][] kept) {
        long price = 0;
        for (int i = 0; i < rows; i++)
            for (int j = 0; j < columns; j++)
                if (kept[i][j] && x.secret(0, i, j) == 0) price += costRule == 0 ? 1 : number[i][j] + 1;
        hold(x.cost(0) == price, "cost");
    }

    private int downRule = -1;
    private int upRule = -1;

    /** The rules can't be asked for, so they are told anew. */
    private void setSpanRules(int down, int up) {
        downRule = down;
        upRule = up;
        hold(x.rule(0, 3, down) && x.rule(0, 4, up), "rule");
    }

    private int down() { return downRule; }

    private int up() { return upRule; }

    private void proveEnd(boolean[][] kept, int r, int c, boolean greatest) {
        int[][] seen = new int[rows][columns];
        for (int i = 0; i < rows; i++)
            for (int j = 0; j < columns; j++) {
                seen[i][j] = x.seen(i, j);
                if (!sound[i]) hold(seen[i][j] == -1, "seen in a row that is not sound");
            }
        agrees(kept, seen);
        if (!kept[r][c]) return;
        boolean[] nodes = reach(kept, seen, r, c, greatest ? rows + c : r, 0);
        for (int i = 0; i < rows; i++) hold(x.cut(true, i) == (nodes[i] ? 1 : 0), "cut, row " + i);
        for (int j = 0; j < columns; j++) hold(x.cut(false, j) == (nodes[rows + j] ? 1 : 0), "cut, column " + j);
        boolean ownEnd = !fits(r, c, seen[r][c] + (greatest ? 1 : -1));
        hold(ownEnd || !nodes[greatest ? r : rows + c], "the end of " + r + ", " + c + " goes farther");
        first(kept, seen, r, c);
    }

    private void agrees(boolean[][] kept, int[][] seen) {
        for (int i = 0; i < rows; i++) {
            if (!sound[i]) continue;
            long s = 0;
            for (int j = 0; j < columns; j++) {
                s += seen[i][j];
                hold(kept[i][j] ? fits(i, j, seen[i][j]) : seen[i][j] == number[i][j], "a cell does not agree");
                long off = 0;
                for (int q = 0; q < rows; q++) if (sound[q] && group[q] == group[i]) off += seen[q][j] - number[q][j];
                hold(off == 0, "a column does not agree");
            }
            hold(s == rowSum(i), "a row does not agree");
        }
    }

    /** Nodes that steps lead to, with the cells alone that come at or after a place, and without the cell itself. */
    private boolean[] reach(boolean[][] kept, int[][] seen, int r, int c, int from, int after) {
        boolean[] nodes = new boolean[rows + columns];
        ArrayDeque<Integer> todo = new ArrayDeque<>();
        nodes[from] = true;
        todo.add(from);
        int wanted = group[r];
        while (!todo.isEmpty()) {
            int node = todo.remove();
            for (int k = 0; k < (node < rows ? columns : rows); k++) {
                int i = node < rows ? node : k;
                int j = node < rows ? k : node - rows;
                if (!sound[i] || group[i] != wanted || !kept[i][j] || i == r && j == c || i * columns + j < after) continue;
                int other = node < rows ? rows + j : i;
                if (nodes[other] || !fits(i, j, seen[i][j] + (node < rows ? 1 : -1))) continue;
                nodes[other] = true;
                todo.add(other);
            }
        }
        return nodes;
    }

    private void first(boolean[][] kept, int[][] seen, int r, int c) {
        for (int i = 0; i < rows; i++)
            for (int j = 0; j < columns; j++) {
                if (!sound[i] || !kept[i][j] || i == r && j == c || !fits(i, j, seen[i][j] - 1)) continue;
                boolean[][] others = new boolean[rows][];
                for (int q = 0; q < rows; q++) others[q] = kept[q].clone();
                others[r][c] = false;
                boolean[] nodes = reach(others, seen, i, j, i, i * columns + j + 1);
                hold(!nodes[rows + j], "the witness is not the first: " + i + ", " + j + " can be less");
            }
    }

    // ---- rounding

    private void round() {
        int base = in(2) == 0 ? 2 + in(20) : 2 + in(999);
        int above = x.round(0, base);
        int[][] to = new int[rows][columns];
        int ups = 0;
        for (int i = 0; i < rows; i++)
            for (int j = 0; j < columns; j++) {
                to[i][j] = x.rounded(i, j);
                if (!sound[i]) {
                    hold(to[i][j] == -1, "rounded in a row that is not sound");
                    continue;
                }
                hold(to[i][j] % base == 0 && Math.abs(to[i][j] - number[i][j]) < base, "rounded too far");
                if (to[i][j] > number[i][j]) ups++;
            }
        hold(above == ups, "how many are above");
        int[] off = new int[rows + columns];
        for (int i = 0; i < rows; i++) {
            if (!sound[i]) continue;
            offs(to, group[i], off);
            for (int node = 0; node < rows + columns; node++) hold(Math.abs(off[node]) < base, "a sum is off");
            for (int j = 0; j < columns; j++)
                if (to[i][j] > number[i][j]) hold(!canFall(to, off, base, i, j), "not the first rounded: " + i + ", " + j);
        }
    }

    private void offs(int[][] to, int wanted, int[] off) {
        java.util.Arrays.fill(off, 0);
        for (int i = 0; i < rows; i++)
            for (int j = 0; j < columns; j++)
                if (sound[i] && group[i] == wanted) {
                    off[i] += to[i][j] - number[i][j];
                    off[rows + j] += to[i][j] - number[i][j];
                }
    }

    /** Whether later cells and the sums' room can make good for one that goes below. */
    private boolean canFall(int[][] to, int[] off, int base, int r, int c) {
        int outside = rows + columns;
        boolean[] nodes = new boolean[outside + 1];
        nodes[r] = true;
        for (int turn = 0; turn <= outside; turn++) {
            for (int i = 0; i < rows; i++) {
                if (!sound[i] || group[i] != group[r]) continue;
                if (nodes[i] && off[i] - base > -base) nodes[outside] = true;
                if (nodes[outside] && off[i] + base < base) nodes[i] = true;
                for (int j = 0; j < columns; j++) {
                    if (i * columns + j <= r * columns + c || number[i][j] % base == 0) continue;
                    if (nodes[i] && to[i][j] < number[i][j]) nodes[rows + j] = true;
                    if (nodes[rows + j] && to[i][j] > number[i][j]) nodes[i] = true;
                }
            }
            for (int j = 0; j < columns; j++) {
                if (nodes[rows + j] && off[rows + j] + base < base) nodes[outside] = true;
                if (nodes[outside] && off[rows + j] - base > -base) nodes[rows + j] = true;
            }
        }
        return nodes[rows + c];
    }

    // ---- guards, by the class's own spans (which are proved above)

    private void plan() {
        boolean[][] before = new boolean[rows][columns];
        boolean[][] now = new boolean[rows][columns];
        for (int i = 0; i < rows; i++)
            for (int j = 0; j < columns; j++) before[i][j] = sound[i] && kept(i, j);
        int more = x.plan(0);
        int status = x.status();
        for (int i = 0; i < rows; i++)
            for (int j = 0; j < columns; j++) now[i][j] = sound[i] && kept(i, j);
        int count = 0;
        for (int i = 0; i < rows; i++)
            for (int j = 0; j < columns; j++) {
                hold(now[i][j] || !before[i][j], "plan lets go");
                if (now[i][j] && !before[i][j]) count++;
            }
        if (more < 0) {
            hold(status == 10 && count == 0, "a plan that fails changes nothing");
        } else {
            hold(status == 0 && count == more && x.unsafe(0) == 0, "plan");
        }
        for (int i = 0; i < rows; i++)
            for (int j = 0; j < columns; j++) if (now[i][j] && !before[i][j]) x.keep(0, i, j, false);
        walkPlan(more, now);
    }

    private void walkPlan(int more, boolean[][] want) {
        boolean fails = false;
        int count = 0;
        for (int turn = 0; turn < 200 && !fails; turn++) {
            int[] at = firstUnsafe();
            if (at == null) break;
            int[] best = null;
            for (int q = 0; q < rows; q++)
                for (int d = 0; d < columns; d++) {
                    if (q == at[0] || d == at[1] || !sound[q] || group[q] != group[at[0]]) continue;
                    if (kind[q][d] == 4 || kind[at[0]][d] == 4 || kind[q][at[1]] == 4) continue;
                    int price = price(at[0], d) + price(q, at[1]) + price(q, d);
                    if (price > 0 && (best == null || price < best[0])) best = new int[] {price, q, d};
                }
            if (best == null) {
                fails = true;
                break;
            }
            int[][] three = {{at[0], best[2]}, {best[1], at[1]}, {best[1], best[2]}};
            for (int[] p : three) {
                if (!kept(p[0], p[1])) count++;
                x.keep(0, p[0], p[1], true);
            }
        }
        hold(fails == more < 0, "whether the plan fails");
        if (fails) return;
        hold(count == more, "how many the plan keeps");
        for (int i = 0; i < rows; i++)
            for (int j = 0; j < columns; j++) hold(!sound[i] || kept(i, j) == want[i][j], "what the plan keeps");
    }

    private int price(int i, int j) {
        if (kept(i, j)) return 0;
        return costRule == 0 ? 1 : number[i][j] + 1;
    }

    private int costRule = 0;

    private int[] firstUnsafe() {
        for (int i = 0; i < rows; i++)
            for (int j = 0; j < columns; j++)
                if (sound[i] && x.secret(0, i, j) > 0 && x.safe(0, i, j) == 0) return new int[] {i, j};
        return null;
    }

    private void fewest() {
        List<int[]> free = new ArrayList<>();
        for (int i = 0; i < rows; i++)
            for (int j = 0; j < columns; j++)
                if (sound[i] && kind[i][j] != 4 && x.secret(0, i, j) == 0) free.add(new int[] {i, j});
        int got = x.fewest(0);
        int status = x.status();
        if (free.size() > 8) {
            hold(got == -1 && status == 8, "more than eight");
            return;
        }
        boolean[] has = new boolean[free.size()];
        for (int k = 0; k < has.length; k++) has[k] = got >= 0 && kept(free.get(k)[0], free.get(k)[1]);
        int best = -1;
        int bestCode = -1;
        for (int code = 0; code < 1 << free.size(); code++) {
            int price = 0;
            for (int k = 0; k < free.size(); k++)
                if ((code >> (free.size() - 1 - k) & 1) == 1)
                    price += costRule == 0 ? 1 : number[free.get(k)[0]][free.get(k)[1]] + 1;
            if (best >= 0 && price > best) continue;
            for (int k = 0; k < free.size(); k++)
                x.keep(0, free.get(k)[0], free.get(k)[1], (code >> (free.size() - 1 - k) & 1) == 1);
            if (x.unsafe(0) > 0) continue;
            best = price;
            bestCode = code;
        }
        hold(got == best && status == (best < 0 ? 10 : 0), "fewest answers " + got + " with " + status + ", due is " + best);
        for (int k = 0; k < has.length && best >= 0; k++)
            hold(has[k] == ((bestCode >> (free.size() - 1 - k) & 1) == 1), "which the fewest are");
    }

    private void go() {
        build(in(3) == 0 ? in(9) : -1);
        setSpanRules(in(3), in(4) > 0 ? in(4) : in(1000));
        costRule = in(2);
        hold(x.rule(0, 5, costRule), "rule");
        round();
        spans();
        plan();
        fewest();
    }

    public static void main(String[] args) {
        int runs = args.length > 1 ? Integer.parseInt(args[1]) : 400;
        int from = args.length > 2 ? Integer.parseInt(args[2]) : 0;
        for (int seed = from; seed < from + runs; seed++) new LargeTest(seed).go();
        System.out.println("LargeTest: " + runs + " runs, " + looked + " things looked at, " + wrong + " wrong");
        if (wrong != 0) System.exit(1);
    }
}
