import java.util.ArrayList;
import java.util.List;

/**
 * The document written down as plainly as can be: it lists every table that agrees, every set that may be kept and
 * every way to round. It shares no code and no method of reckoning with CellKeeper, and is fit for small tables alone.
 */
final class PlainOffice {
    static final class Place {
        int kind;
        int number;
        List<Integer> parts = new ArrayList<>();
        boolean hand;
        boolean keep;
    }

    static final class Sheet {
        int rows;
        int columns;
        Place[][] at;
        int[] places;
        int[] rules = {3, 2, 10, 1, 1, 0};
        List<int[]> blocks = new ArrayList<>();

        Sheet(int rows, int columns) {
            this.rows = rows;
            this.columns = columns;
            at = new Place[rows][columns];
            places = new int[rows];
            for (int i = 0; i < rows; i++) {
                places[i] = columns;
                for (int j = 0; j < columns; j++) at[i][j] = new Place();
            }
        }

        boolean sound(int i) {
            if (places[i] != columns) return false;
            for (Place p : at[i]) if (p.kind == 0 || p.kind == 5) return false;
            return true;
        }

        int[] least(int i) {
            int[] found = null;
            for (int[] b : blocks)
                if (b[0] <= i && i <= b[1] && (found == null || b[1] - b[0] < found[1] - found[0])) found = b;
            return found;
        }

        List<Integer> classRows(int i) {
            List<Integer> found = new ArrayList<>();
            for (int q = 0; q < rows; q++) if (sound(q) && least(q) == least(i)) found.add(q);
            return found;
        }

        int sum(int i) {
            int s = 0;
            for (Place p : at[i]) s += p.number;
            return s;
        }

        int secret(int i, int j) {
            Place p = at[i][j];
            int s = 0;
            if (p.kind == 1 && p.number >= 1 && p.number <= rules[0]) s += 1;
            if (p.kind == 2 && p.number > 0 && p.parts.size() < rules[1]) s += 2;
            if (p.kind == 2 && p.number > 0) {
                List<Integer> sorted = new ArrayList<>(p.parts);
                sorted.sort((x, y) -> y - x);
                int left = 0;
                for (int k = 2; k < sorted.size(); k++) left += sorted.get(k);
                if (100 * left < rules[2] * p.number) s += 4;
            }
            if (p.hand) s += 8;
            return s;
        }

        int price(int i, int j) { return rules[5] == 0 ? 1 : at[i][j].number + 1; }

        boolean[][] kept() {
            boolean[][] k = secrets();
            for (int i = 0; i < rows; i++)
                for (int j = 0; j < columns; j++) if (sound(i) && at[i][j].keep) k[i][j] = true;
            return k;
        }

        boolean[][] secrets() {
            boolean[][] k = new boolean[rows][columns];
            for (int i = 0; i < rows; i++)
                for (int j = 0; j < columns; j++) k[i][j] = sound(i) && secret(i, j) != 0;
            return k;
        }
    }

    /** Every table of one class that agrees, in order; the first that has an end is that end's witness. */
    static final class Lister {
        final Sheet sheet;
        final boolean[][] kept;
        final List<Integer> rows;
        final int[] rowLeft;
        final int[] columnLeft;
        final int[][] now;
        final int[][] least;
        final int[][] greatest;
        final int[][][][] leastWitness;
        final int[][][][] greatestWitness;
        int[][] first;

        Lister(Sheet sheet, boolean[][] kept, int row) {
            this.sheet = sheet;
            this.kept = kept;
            rows = sheet.classRows(row);
            rowLeft = new int[sheet.rows];
            columnLeft = new int[sheet.columns];
            now = new int[sheet.rows][sheet.columns];
            least = new int[sheet.rows][sheet.columns];
            greatest = new int[sheet.rows][sheet.columns];
            leastWitness = new int[sheet.rows][sheet.columns][][];
            greatestWitness = new int[sheet.rows][sheet.columns][][];
            for (int i : rows)
                for (int j = 0; j < sheet.columns; j++) {
                    rowLeft[i] += sheet.at[i][j].number;
                    columnLeft[j] += sheet.at[i][j].number;
                    least[i][j] = Integer.MAX_VALUE;
                    greatest[i][j] = -1;
                }
            fill(0);
        }

        void fill(int n) {
            if (n == rows.size() * sheet.columns) {
                note();
                return;
            }
            int i = rows.get(n / sheet.columns);
            int j = n % sheet.columns;
            boolean lastOfRow = j == sheet.columns - 1;
            boolean lastOfColumn = i == rows.get(rows.size() - 1);
            int from = 0;
            int to = Math.min(rowLeft[i], columnLeft[j]);
            if (!kept[i][j]) {
                from = sheet.at[i][j].number;
                to = Math.min(to, from);
            }
            if (lastOfRow) from = Math.max(from, rowLeft[i]);
            if (lastOfColumn) from = Math.max(from, columnLeft[j]);
            for (int v = from; v <= to; v++) {
                if (sheet.at[i][j].kind == 3 && thousandths(v, sheet.sum(i)) != thousandths(sheet.at[i][j].number, sheet.sum(i))) continue;
                now[i][j] = v;
                rowLeft[i] -= v;
                columnLeft[j] -= v;
                fill(n + 1);
                rowLeft[i] += v;
                columnLeft[j] += v;
            }
        }

        void note() {
            int[][] copy = null;
            for (int i : rows)
                for (int j = 0; j < sheet.columns; j++) {
                    int v = now[i][j];
                    if (v < least[i][j] || v > greatest[i][j]) {
                        if (copy == null) {
                            copy = new int[now.length][];
                            for (int q = 0; q < now.length; q++) copy[q] = now[q].clone();
                            if (first == null) first = copy;
                        }
                        if (v < least[i][j]) { least[i][j] = v; leastWitness[i][j] = copy; }
                        if (v > greatest[i][j]) { greatest[i][j] = v; greatestWitness[i][j] = copy; }
                    }
                }
        }
    }

    static int thousandths(int number, int sum) { return sum == 0 ? 0 : 1000 * number / sum; }

    final Sheet[] sheets = new Sheet[6];
    int status;
    int[][] seen;
    boolean[] cutRows;
    boolean[] cutColumns;
    int[][] roundedTo;
    final List<int[][]> gifts = new ArrayList<>();

    // ---- the order of the statuses

    private int table(int t) { return t < 0 || t > 5 || sheets[t] == null ? 1 : 0; }

    private int row(int t, int i) {
        if (table(t) != 0) return 1;
        return i < 0 || i >= sheets[t].rows ? 2 : 0;
    }

    private int place(int t, int i, int j) {
        if (row(t, i) != 0) return row(t, i);
        Sheet s = sheets[t];
        if (j < 0 || j >= s.columns) return 2;
        if (s.places[i] == 0) return 3;
        return j >= s.places[i] ? 4 : 0;
    }

    private int filled(int t, int i, int j, String kinds) {
        if (place(t, i, j) != 0) return place(t, i, j);
        int k = sheets[t].at[i][j].kind;
        if (k == 0) return 5;
        return kinds.indexOf((char) ('0' + k)) < 0 ? 6 : 0;
    }

    private int soundCell(int t, int i, int j, String kinds) {
        int f = filled(t, i, j, kinds);
        if (f != 0) return f;
        return sheets[t].sound(i) ? 0 : 11;
    }

    private boolean ok(int s) { status = s; return s == 0; }

    private int no(int s) { status = s; return -1; }

    // ---- what is told

    boolean open(int t, int rows, int columns) {
        if (t < 0 || t > 5 || sheets[t] != null) return ok(1);
        if (rows < 1 || rows > 12 || columns < 1 || columns > 12) return ok(2);
        sheets[t] = new Sheet(rows, columns);
        return ok(0);
    }

    boolean close(int t) {
        if (!ok(table(t))) return false;
        sheets[t] = null;
        return true;
    }

    boolean rule(int t, int which, int n) {
        if (!ok(table(t))) return false;
        int[] most = {100, 6, 100, 1000000, 1000000, 1};
        if (which < 0 || which > 5 || n < 0 || n > most[which]) return ok(7);
        sheets[t].rules[which] = n;
        return true;
    }

    boolean cell(int t, int i, int j, int kind, int n) {
        if (!ok(place(t, i, j))) return false;
        boolean can = (kind == 1 || kind == 3) && n >= 0 && n <= 1000000
                || (kind == 2 || kind == 4) && n == 0 || kind == 0 && n >= 1 && n <= 99;
        if (!can) return ok(7);
        Place p = new Place();
        p.kind = kind == 0 ? 5 : kind;
        p.number = n;
        sheets[t].at[i][j] = p;
        return true;
    }

    boolean giver(int t, int i, int j, int part) {
        if (!ok(filled(t, i, j, "2"))) return false;
        Place p = sheets[t].at[i][j];
        if (part < 1 || part > 100000) return ok(7);
        if (p.parts.size() == 6) return ok(8);
        p.parts.add(part);
        p.number += part;
        return true;
    }

    boolean clear(int t, int i, int j) {
        if (!ok(filled(t, i, j, "12345"))) return false;
        sheets[t].at[i][j] = new Place();
        return true;
    }

    boolean tear(int t, int i, int places) {
        if (!ok(row(t, i))) return false;
        Sheet s = sheets[t];
        if (s.places[i] == 0) return ok(3);
        if (places > s.places[i]) return ok(4);
        if (places < 0) return ok(7);
        for (int j = places; j < s.columns; j++) s.at[i][j] = new Place();
        s.places[i] = places;
        return true;
    }

    int block(int t, int first, int last) {
        if (!ok(table(t))) return -1;
        Sheet s = sheets[t];
        if (first < 0 || last >= s.rows || last < first) return no(2);
        if (s.blocks.size() == 12) return no(8);
        for (int[] b : s.blocks) {
            int common = 0;
            for (int i = first; i <= last; i++) if (b[0] <= i && i <= b[1]) common++;
            int mine = last - first + 1;
            int theirs = b[1] - b[0] + 1;
            boolean fine = common == 0 || (common == mine) != (common == theirs);
            if (!fine) return no(9);
        }
        s.blocks.add(new int[] {first, last});
        return s.blocks.size();
    }

    int kind(int t, int i, int j) { return ok(place(t, i, j)) ? sheets[t].at[i][j].kind : -1; }

    int number(int t, int i, int j) { return ok(filled(t, i, j, "12345")) ? sheets[t].at[i][j].number : -1; }

    int givers(int t, int i, int j) { return ok(filled(t, i, j, "2")) ? sheets[t].at[i][j].parts.size() : -1; }

    int part(int t, int i, int j, int k) {
        if (!ok(filled(t, i, j, "2"))) return -1;
        List<Integer> parts = sheets[t].at[i][j].parts;
        return k < 0 || k >= parts.size() ? no(7) : parts.get(k);
    }

    boolean hand(int t, int i, int j, boolean on) {
        if (!ok(filled(t, i, j, "123"))) return false;
        sheets[t].at[i][j].hand = on;
        return true;
    }

    boolean keep(int t, int i, int j, boolean on) {
        if (!ok(filled(t, i, j, "123"))) return false;
        sheets[t].at[i][j].keep = on;
        return true;
    }

    int sound(int t, int i) { return ok(row(t, i)) ? (sheets[t].sound(i) ? 1 : 0) : -1; }

    int sum(int t, int i) {
        if (!ok(row(t, i))) return -1;
        return sheets[t].sound(i) ? sheets[t].sum(i) : no(11);
    }

    int total(int t, int i, int j) {
        if (!ok(row(t, i))) return -1;
        if (j < 0 || j >= sheets[t].columns) return no(2);
        if (!sheets[t].sound(i)) return no(11);
        int s = 0;
        for (int q : sheets[t].classRows(i)) s += sheets[t].at[q][j].number;
        return s;
    }

    int secret(int t, int i, int j) { return ok(soundCell(t, i, j, "1234")) ? sheets[t].secret(i, j) : -1; }

    int kept(int t, int i, int j) {
        return ok(soundCell(t, i, j, "1234")) ? (sheets[t].kept()[i][j] ? 1 : 0) : -1;
    }

    int thousandths(int t, int i, int j) {
        return ok(soundCell(t, i, j, "3")) ? thousandths(sheets[t].at[i][j].number, sheets[t].sum(i)) : -1;
    }

    // ---- what a reader reckons

    int least(int t, int i, int j) {
        if (!ok(soundCell(t, i, j, "1234"))) return -1;
        return new Lister(sheets[t], sheets[t].kept(), i).least[i][j];
    }

    int greatest(int t, int i, int j) {
        if (!ok(soundCell(t, i, j, "1234"))) return -1;
        return new Lister(sheets[t], sheets[t].kept(), i).greatest[i][j];
    }

    private static boolean safeIn(Sheet s, Lister l, int i, int j) {
        int n = s.at[i][j].number;
        boolean low = l.least[i][j] <= n - s.rules[3] || l.least[i][j] == 0;
        return low && l.greatest[i][j] >= n + s.rules[4];
    }

    int safe(int t, int i, int j) {
        if (!ok(soundCell(t, i, j, "1234"))) return -1;
        return safeIn(sheets[t], new Lister(sheets[t], sheets[t].kept(), i), i, j) ? 1 : 0;
    }

    private static List<int[]> unsafeIn(Sheet s, boolean[][] kept) {
        List<int[]> found = new ArrayList<>();
        for (int i = 0; i < s.rows; i++) {
            if (!s.sound(i)) continue;
            Lister l = null;
            for (int j = 0; j < s.columns; j++) {
                if (s.secret(i, j) == 0) continue;
                if (l == null) l = new Lister(s, kept, i);
                if (!safeIn(s, l, i, j)) found.add(new int[] {i, j});
            }
        }
        return found;
    }

    int unsafe(int t) { return ok(table(t)) ? unsafeIn(sheets[t], sheets[t].kept()).size() : -1; }

    int witness(int t, int i, int j, boolean greatest) {
        if (!ok(soundCell(t, i, j, "1234"))) return -1;
        Sheet s = sheets[t];
        boolean[][] kept = s.kept();
        seen = new int[s.rows][s.columns];
        for (int q = 0; q < s.rows; q++) {
            for (int d = 0; d < s.columns; d++) seen[q][d] = -1;
            if (!s.sound(q)) continue;
            Lister l = new Lister(s, kept, q);
            boolean same = s.least(q) == s.least(i);
            int[][] from = !same ? l.first : greatest ? l.greatestWitness[i][j] : l.leastWitness[i][j];
            seen[q] = from[q].clone();
        }
        cutRows = new boolean[s.rows];
        cutColumns = new boolean[s.columns];
        if (greatest) cutColumns[j] = true; else cutRows[i] = true;
        for (int turn = 0; turn < 30 && kept[i][j]; turn++)
            for (int q : s.classRows(i))
                for (int d = 0; d < s.columns; d++) {
                    if (!kept[q][d] || q == i && d == j) continue;
                    boolean share = s.at[q][d].kind == 3;
                    int told = thousandths(s.at[q][d].number, s.sum(q));
                    boolean more = !share || thousandths(seen[q][d] + 1, s.sum(q)) == told;
                    boolean less = seen[q][d] > 0 && (!share || thousandths(seen[q][d] - 1, s.sum(q)) == told);
                    if (more && cutRows[q]) cutColumns[d] = true;
                    if (less && cutColumns[d]) cutRows[q] = true;
                }
        return seen[i][j];
    }

    int seen(int i, int j) {
        return seen == null || i < 0 || j < 0 || i >= seen.length || j >= seen[0].length ? -1 : seen[i][j];
    }

    int cut(boolean rows, int k) {
        boolean[] nodes = rows ? cutRows : cutColumns;
        return nodes == null || k < 0 || k >= nodes.length ? -1 : nodes[k] ? 1 : 0;
    }

    // ---- guards

    int plan(int t) {
        if (!ok(table(t))) return -1;
        Sheet s = sheets[t];
        boolean[][] kept = s.kept();
        boolean[][] told = new boolean[s.rows][s.columns];
        int more = 0;
        while (true) {
            List<int[]> open = unsafeIn(s, kept);
            if (open.isEmpty()) break;
            int r = open.get(0)[0];
            int c = open.get(0)[1];
            int[] best = null;
            for (int q : s.classRows(r))
                for (int d = 0; d < s.columns; d++) {
                    if (q == r || d == c) continue;
                    int[][] three = {{r, d}, {q, c}, {q, d}};
                    boolean zero = false;
                    int free = 0;
                    int price = 0;
                    for (int[] p : three) {
                        if (s.at[p[0]][p[1]].kind == 4) zero = true;
                        if (!kept[p[0]][p[1]]) { free++; price += s.price(p[0], p[1]); }
                    }
                    if (!zero && free > 0 && (best == null || price < best[0])) best = new int[] {price, q, d};
                }
            if (best == null) return no(10);
            int[][] three = {{r, best[2]}, {best[1], c}, {best[1], best[2]}};
            for (int[] p : three) {
                if (!kept[p[0]][p[1]]) more++;
                kept[p[0]][p[1]] = true;
                told[p[0]][p[1]] = true;
            }
        }
        for (int i = 0; i < s.rows; i++) for (int j = 0; j < s.columns; j++) if (told[i][j]) s.at[i][j].keep = true;
        return more;
    }

    int fewest(int t) {
        if (!ok(table(t))) return -1;
        Sheet s = sheets[t];
        List<int[]> can = new ArrayList<>();
        for (int i = 0; i < s.rows; i++)
            for (int j = 0; j < s.columns; j++)
                if (s.sound(i) && s.secret(i, j) == 0 && s.at[i][j].kind != 4) can.add(new int[] {i, j});
        if (can.size() > 8) return no(8);
        int bestPrice = -1;
        boolean[] bestSet = null;
        for (int code = 0; code < 1 << can.size(); code++) {
            boolean[] set = new boolean[can.size()];
            boolean[][] kept = s.secrets();
            int price = 0;
            for (int k = 0; k < set.length; k++) {
                set[k] = (code >> k & 1) == 1;
                if (set[k]) {
                    kept[can.get(k)[0]][can.get(k)[1]] = true;
                    price += s.price(can.get(k)[0], can.get(k)[1]);
                }
            }
            if (bestSet != null && (price > bestPrice || price == bestPrice && !before(set, bestSet))) continue;
            if (unsafeIn(s, kept).isEmpty()) { bestPrice = price; bestSet = set; }
        }
        if (bestSet == null) return no(10);
        for (Place[] row : s.at) for (Place p : row) p.keep = false;
        for (int k = 0; k < bestSet.length; k++) if (bestSet[k]) s.at[can.get(k)[0]][can.get(k)[1]].keep = true;
        return bestPrice;
    }

    private static boolean before(boolean[] a, boolean[] b) {
        for (int k = 0; k < a.length; k++) if (a[k] != b[k]) return a[k];
        return false;
    }

    int cost(int t) {
        if (!ok(table(t))) return -1;
        Sheet s = sheets[t];
        boolean[][] kept = s.kept();
        int price = 0;
        for (int i = 0; i < s.rows; i++)
            for (int j = 0; j < s.columns; j++)
                if (s.sound(i) && kept[i][j] && s.secret(i, j) == 0) price += s.price(i, j);
        return price;
    }

    // ---- rounding and gifts

    int round(int t, int base) {
        if (!ok(table(t))) return -1;
        if (base < 2 || base > 1000) return no(7);
        Sheet s = sheets[t];
        int[][] result = new int[s.rows][s.columns];
        int above = 0;
        for (int i = 0; i < s.rows; i++) {
            for (int j = 0; j < s.columns; j++) result[i][j] = -1;
        }
        for (int i = 0; i < s.rows; i++) {
            if (!s.sound(i) || result[i][0] >= 0) continue;
            List<Integer> rows = s.classRows(i);
            if (!roundFrom(s, rows, base, 0, result)) throw new IllegalStateException("no table is rounded");
            for (int q : rows) for (int j = 0; j < s.columns; j++) if (result[q][j] > s.at[q][j].number) above++;
        }
        roundedTo = result;
        return above;
    }

    private static boolean roundFrom(Sheet s, List<Integer> rows, int base, int n, int[][] result) {
        if (n > 0 && n % s.columns == 0 && !sumFits(s, rows.subList(n / s.columns - 1, n / s.columns), base, result, true)) return false;
        if (n == rows.size() * s.columns) return sumFits(s, rows, base, result, false);
        int i = rows.get(n / s.columns);
        int j = n % s.columns;
        int number = s.at[i][j].number;
        int below = number / base * base;
        result[i][j] = below;
        if (roundFrom(s, rows, base, n + 1, result)) return true;
        if (below == number) return false;
        result[i][j] = below + base;
        return roundFrom(s, rows, base, n + 1, result);
    }

    private static boolean sumFits(Sheet s, List<Integer> rows, int base, int[][] result, boolean byRow) {
        if (byRow) {
            int i = rows.get(0);
            int off = 0;
            for (int j = 0; j < s.columns; j++) off += result[i][j] - s.at[i][j].number;
            return Math.abs(off) < base;
        }
        for (int j = 0; j < s.columns; j++) {
            int off = 0;
            for (int i : rows) off += result[i][j] - s.at[i][j].number;
            if (Math.abs(off) >= base) return false;
        }
        return true;
    }

    int rounded(int i, int j) {
        return roundedTo == null || i < 0 || j < 0 || i >= roundedTo.length || j >= roundedTo[0].length ? -1 : roundedTo[i][j];
    }

    int give(int t) {
        if (!ok(table(t))) return -1;
        Sheet s = sheets[t];
        if (gifts.size() == 16) return no(8);
        boolean[][] kept = s.kept();
        if (!unsafeIn(s, kept).isEmpty()) return no(10);
        int[][] gift = new int[s.rows][s.columns];
        for (int i = 0; i < s.rows; i++)
            for (int j = 0; j < s.columns; j++)
                gift[i][j] = !s.sound(i) ? -3 : kept[i][j] ? -2 : s.at[i][j].number;
        gifts.add(gift);
        return gifts.size() - 1;
    }

    int gift(int k, int i, int j) {
        if (k < 0 || k >= gifts.size()) return -1;
        int[][] g = gifts.get(k);
        return i < 0 || j < 0 || i >= g.length || j >= g[0].length ? -1 : g[i][j];
    }

    int agree(int a, int b) {
        if (a < 0 || b < 0 || a >= gifts.size() || b >= gifts.size()) return -1;
        for (int i = 0; i < 12; i++)
            for (int j = 0; j < 12; j++) {
                int x = gift(a, i, j);
                int y = gift(b, i, j);
                if (x >= 0 && y >= 0 && x != y) return 100 * i + j;
            }
        return -2;
    }
}
