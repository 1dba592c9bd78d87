import java.io.IOException;
import java.util.Arrays;
import java.util.HashSet;
import java.util.Set;

/** The document's 'Terms', sentence by sentence: each one has its edges here. */
public final class TermsTest extends Bench {
    private static final int[] NO_TABLES = {-1, 6, 7, 12, LOWEST, HIGHEST};
    private static final int[] FAR = {-1, 12, 13, 144, 1 << 28, 1 << 30, LOWEST, HIGHEST};

    // ---- part 1

    private static void tables() {
        says("TABLES. There are six TABLES, 0 to 5, each open or not.");
        x = new CellKeeper();
        for (int t = 0; t < 6; t++) {
            none("not open", x.kind(t, 0, 0), 1);
            yes("open", x.open(t, 1, 1));
            for (int u = 0; u < 6; u++) due("kind", x.kind(u, 0, 0), u <= t ? 0 : -1, u <= t ? 0 : 1);
        }
        tableCalls().forEach((name, call) -> {
            for (int t : NO_TABLES) none(name + " of table " + t, call.at(t), 1);
        });
        yes("close", x.close(3));
        tableCalls().forEach((name, call) -> none(name + " of a closed one", call.at(3), 1));
        for (int u = 0; u < 6; u++) due("kind", x.kind(u, 0, 0), u == 3 ? -1 : 0, u == 3 ? 1 : 0);
        fresh("5 6", "7 8");
        lay(5, "50 60", "70 80");
        yes("keep", x.keep(0, 0, 0, true));
        yes("hand", x.hand(0, 0, 1, true));
        yes("rule", x.rule(0, 0, 100));
        due("block", x.block(0, 0, 0), 1, 0);
        due("numbers are the table's own", x.number(5, 1, 1), 80, 0);
        due("told to be kept in the other one", x.kept(5, 0, 0), 0, 0);
        due("a secret in the other one", x.secret(5, 0, 1), 0, 0);
        due("a block in the other one", x.total(5, 0, 0), 120, 0);
        due("how many blocks", x.block(5, 0, 1), 1, 0);
    }

    private static void rowsAndColumns() {
        says("An open one has ROWS and COLUMNS (1 to 12 each), numbered from 0, and a PLACE for each ROW and COLUMN: "
            + "NOTHING, a MARK (a number from 1 to 99) or a CELL.");
        for (int rows = -1; rows <= 14; rows++)
            for (int columns = -1; columns <= 14; columns++) {
                x = new CellKeeper();
                boolean can = rows >= 1 && rows <= 12 && columns >= 1 && columns <= 12;
                due("open", x.open(0, rows, columns) ? 1 : 0, can ? 1 : 0, can ? 0 : 2);
                if (can) placesOf(rows, columns);
            }
        for (int k : FAR) {
            x = new CellKeeper();
            if (k != 12) no("open", x.open(0, k, 12), 2);
            if (k != 12) no("open", x.open(0, 12, k), 2);
        }
        fresh("m1 m99 5");
        no("mark 0", x.cell(0, 0, 2, 0, 0), 7);
        no("mark 100", x.cell(0, 0, 2, 0, 100), 7);
        due("mark 1", x.number(0, 0, 0), 1, 0);
        due("mark 99", x.number(0, 0, 1), 99, 0);
        due("a cell", x.kind(0, 0, 2), 1, 0);
    }

    private static void placesOf(int rows, int columns) {
        for (int i = 0; i < rows; i++)
            for (int j = 0; j < columns; j++) due("a new place", x.kind(0, i, j), 0, 0);
        int[][] outside = {{-1, 0}, {rows, 0}, {0, -1}, {0, columns}, {rows, columns}, {-1, -1}, {rows - 1, columns}, {rows, columns - 1}};
        for (int[] p : outside) none("no such place", x.kind(0, p[0], p[1]), 2);
        for (int k : FAR) {
            if (k < 0 || k >= rows) none("no such row", x.kind(0, k, 0), 2);
            if (k < 0 || k >= columns) none("no such column", x.kind(0, 0, k), 2);
        }
    }

    private static void torn() {
        says("A ROW may be torn: it has its first PLACES alone, fewer than COLUMNS, or is MISSING (0 PLACES).");
        for (int columns = 1; columns <= 12; columns++)
            for (int places = 0; places <= columns; places++) {
                x = new CellKeeper();
                yes("open", x.open(0, 2, columns));
                for (int j = 0; j < 2 * columns; j++) yes("cell", x.cell(0, j / columns, j % columns, COUNT, 10 + j));
                yes("tear", x.tear(0, 0, places));
                due("sound", x.sound(0, 0), places == columns ? 1 : 0, 0);
                due("the other row", x.sound(0, 1), 1, 0);
                for (int j = 0; j < columns; j++) {
                    int status = j < places ? 0 : places == 0 ? 3 : 4;
                    due("number", x.number(0, 0, j), status == 0 ? 10 + j : -1, status);
                    due("the other row", x.number(0, 1, j), 10 + columns + j, 0);
                }
            }
    }

    private static void kinds() {
        says("CELLS are of a KIND and have a NUMBER (0 to 1,000,000):");
        fresh(". .");
        for (int kind : new int[] {COUNT, SHARE}) {
            for (int n : new int[] {0, 1, 999999, 1000000}) {
                yes("cell", x.cell(0, 0, 0, kind, n));
                due("its kind", x.kind(0, 0, 0), kind, 0);
                due("its number", x.number(0, 0, 0), n, 0);
            }
            for (int n : new int[] {-1, 1000001, LOWEST, HIGHEST}) {
                no("cell", x.cell(0, 0, 0, kind, n), 7);
                due("as it was", x.number(0, 0, 0), 1000000, 0);
            }
        }
        says("1 COUNT.   2 AMOUNT: the sum of its GIVERS' PARTS: 0 to 6 GIVERS, each with a PART from 1 to 100,000.");
        fresh("a 5 a1+100000+7");
        due("a count", x.kind(0, 0, 1), 1, 0);
        due("without givers", x.number(0, 0, 0), 0, 0);
        due("three", x.number(0, 0, 2), 100008, 0);
        for (int part : new int[] {0, -1, 100001, LOWEST, HIGHEST}) no("giver", x.giver(0, 0, 0, part), 7);
        due("still none", x.givers(0, 0, 0), 0, 0);
        for (int k = 1; k <= 6; k++) {
            yes("giver", x.giver(0, 0, 0, 100000));
            due("givers", x.givers(0, 0, 0), k, 0);
            due("their sum", x.number(0, 0, 0), k * 100000L, 0);
        }
        no("a seventh", x.giver(0, 0, 0, 1), 8);
        due("six", x.givers(0, 0, 0), 6, 0);
        due("their sum", x.number(0, 0, 0), 600000, 0);
        zeros();
    }

    private static void zeros() {
        says("3 SHARE.   4 ZERO (0, and known to be).");
        calm("*5 *9", "*7 z");
        due("a share is of kind 3", x.cell(0, 0, 0, 3, 5) ? x.kind(0, 0, 0) : -9, 3, 0);
        lay(0, 0, 0, "*5");
        due("kind", x.kind(0, 1, 1), 4, 0);
        due("number", x.number(0, 1, 1), 0, 0);
        no("a zero of 1", x.cell(0, 1, 1, ZERO, 1), 7);
        no("keep", x.keep(0, 1, 1, true), 6);
        no("hand", x.hand(0, 1, 1, true), 6);
        spanIs(1, 1, 0, 0);
        spanIs(0, 0, 5, 5);
        lay(0, 1, 1, "*0");
        spanIs(1, 1, 0, 7);
        spanIs(0, 0, 5, 12);
    }

    private static void sound() {
        says("A ROW is SOUND if it has all its PLACES and each has a CELL.");
        fresh("5 a s5 z");
        due("a cell of each kind", x.sound(0, 0), 1, 0);
        for (int j = 0; j < 4; j++) {
            fresh("5 a s5 z", "0 0 0 0");
            yes("clear", x.clear(0, 0, j));
            due("with nothing in place " + j, x.sound(0, 0), 0, 0);
            yes("mark", x.cell(0, 0, j, 0, 1));
            due("with a mark in place " + j, x.sound(0, 0), 0, 0);
            yes("cell", x.cell(0, 0, j, COUNT, 0));
            due("with a cell again", x.sound(0, 0), 1, 0);
            yes("tear", x.tear(0, 0, j));
            due("with " + j + " places", x.sound(0, 0), 0, 0);
            due("the other row", x.sound(0, 1), 1, 0);
        }
        fresh(".");
        due("one place with nothing", x.sound(0, 0), 0, 0);
        notSound();
    }

    private static void notSound() {
        says("What is not SOUND is in no sum and no ROW of what follows.");
        for (String last : new String[] {".", "m9", "torn", "missing"}) {
            calm("*2 *9", "*7 *6", "!*1 " + (last.length() > 2 ? "!8" : last));
            if (last.equals("torn")) yes("tear", x.tear(0, 2, 1));
            if (last.equals("missing")) yes("tear", x.tear(0, 2, 0));
            none("sum", x.sum(0, 2), 11);
            due("total", x.total(0, 0, 0), 9, 0);
            spanIs(0, 0, 0, 9);
            due("unsafe", x.unsafe(0), 0, 0);
            due("cost", x.cost(0), 4, 0);
            due("witness", x.witness(0, 0, 0, true), 9, 0);
            seenIs("9 2 / 0 13 / -1 -1");
            cutIs("000", "10");
            due("round", x.round(0, 10), 2, 0);
            roundedIs("0 10 / 0 10 / -1 -1");
            due("give", x.give(0), 0, 0);
            giftIs(0, "-2 -2 / -2 -2 / -3 -3");
            due("fewest", x.fewest(0), 0, 0);
            due("plan", x.plan(0), 0, 0);
        }
        calm("!2 9", "7 .");
        none("no plan through it", x.plan(0), 10);
        none("no set through it", x.fewest(0), 10);
        calm("!2 9 9", "9 9 9", "9 9 .", "9 9 m1");
        due("nor counted among the eight", x.fewest(0), 3, 0);
    }

    private static void blocks() {
        says("A BLOCK is some ROWS one behind the other; at most 12 BLOCKS, any two of them without a ROW in common, "
            + "or one within the other, and not the same.");
        for (int f = 0; f < 6; f++)
            for (int l = f; l < 6; l++)
                for (int a = -1; a <= 6; a++)
                    for (int b = -1; b <= 6; b++) {
                        fresh(".", ".", ".", ".", ".", ".");
                        due("block", x.block(0, f, l), 1, 0);
                        int status = a < 0 || b > 5 || b < a ? 2 : mayLie(f, l, a, b) ? 0 : 9;
                        due(f + " to " + l + ", then " + a + " to " + b, x.block(0, a, b), status == 0 ? 2 : -1, status);
                    }
        x = new CellKeeper();
        yes("open", x.open(0, 12, 1));
        for (int k = 0; k < 12; k++) due("block " + k, x.block(0, 0, k), k + 1, 0);
        none("a thirteenth", x.block(0, 11, 11), 8);
        none("a thirteenth", x.block(0, 1, 1), 8);
        yes("another table", x.open(1, 12, 1));
        due("has its own twelve", x.block(1, 0, 11), 1, 0);
    }

    private static boolean mayLie(int f, int l, int a, int b) {
        Set<Integer> one = new HashSet<>();
        Set<Integer> other = new HashSet<>();
        for (int k = f; k <= l; k++) one.add(k);
        for (int k = a; k <= b; k++) other.add(k);
        Set<Integer> both = new HashSet<>(one);
        both.retainAll(other);
        return both.isEmpty() || !one.equals(other) && (both.equals(one) || both.equals(other));
    }

    private static void classes() {
        says("ROWS for which the least BLOCK with them is the same (or none is) are of one CLASS.");
        // Each row has its own power of two, so that a total tells which rows it is over.
        classesAre(new int[][] {}, "000000000000");
        classesAre(new int[][] {{0, 11}}, "000000000000");
        classesAre(new int[][] {{0, 0}}, "100000000000");
        classesAre(new int[][] {{11, 11}}, "000000000001");
        classesAre(new int[][] {{3, 8}, {5, 6}}, "000112211000");
        classesAre(new int[][] {{5, 6}, {3, 8}}, "000112211000");
        classesAre(new int[][] {{3, 8}, {3, 5}, {6, 8}}, "000222333000");
        classesAre(new int[][] {{4, 4}, {4, 5}, {3, 5}, {3, 6}, {0, 11}}, "000123400000");
        classesAre(new int[][] {{0, 3}, {8, 11}}, "111100002222");
        classesAre(new int[][] {{0, 10}, {1, 10}, {1, 9}}, "122222222230");
        // A block that is told later takes rows out of a class.
        calm("1 1", "2 2", "4 4", "8 8");
        due("total", x.total(0, 0, 1), 15, 0);
        due("block", x.block(0, 1, 2), 1, 0);
        due("total", x.total(0, 0, 1), 9, 0);
        due("block", x.block(0, 2, 2), 2, 0);
        due("total", x.total(0, 1, 1), 2, 0);
        due("block", x.block(0, 0, 3), 3, 0);
        due("total", x.total(0, 3, 1), 9, 0);
    }

    /** Rows with the same sign must be of one class. */
    private static void classesAre(int[][] blocks, String signs) {
        x = new CellKeeper();
        yes("open", x.open(0, 12, 1));
        for (int i = 0; i < 12; i++) yes("cell", x.cell(0, i, 0, COUNT, 1 << i));
        for (int k = 0; k < blocks.length; k++) due("block", x.block(0, blocks[k][0], blocks[k][1]), k + 1, 0);
        for (int i = 0; i < 12; i++) {
            int want = 0;
            for (int q = 0; q < 12; q++) want += signs.charAt(q) == signs.charAt(i) ? 1 << q : 0;
            due("total of row " + i + " with " + Arrays.deepToString(blocks), x.total(0, i, 0), want, 0);
        }
    }

    private static void ruleIs(int which, int most) {
        fresh("5");
        yes("0", x.rule(0, which, 0));
        yes("the most", x.rule(0, which, most));
        for (int n : new int[] {-1, most + 1, LOWEST, HIGHEST}) no("rule " + which, x.rule(0, which, n), 7);
    }

    private static void rules() {
        says("RULES of a TABLE, each a number told by a hand: 0 THRESHOLD (0 to 100; 3 at first),");
        ruleIs(0, 100);
        fresh("3 4 100 101 1");
        thresholdIs("1 0 0 0 1");
        yes("100", x.rule(0, 0, 100));
        thresholdIs("1 1 1 0 1");
        no("101", x.rule(0, 0, 101), 7);
        thresholdIs("1 1 1 0 1");
        yes("0", x.rule(0, 0, 0));
        thresholdIs("0 0 0 0 0");
        says("1 GIVERS wanted (0 to 6; 2),");
        ruleIs(1, 6);
        fresh("a5 a5+5 a5+5+5+5+5 a5+5+5+5+5+5 a");
        yes("percent", x.rule(0, 2, 0));
        thresholdIs("2 0 0 0 0");
        yes("6", x.rule(0, 1, 6));
        thresholdIs("2 2 2 0 0");
        no("7", x.rule(0, 1, 7), 7);
        thresholdIs("2 2 2 0 0");
        yes("0", x.rule(0, 1, 0));
        thresholdIs("0 0 0 0 0");
        says("2 PERCENT (0 to 100; 10),");
        ruleIs(2, 100);
        fresh("a60+30+10 a60+31+10 a5+5 a50000+50000+50000 a");
        thresholdIs("0 4 4 0 0");
        yes("100", x.rule(0, 2, 100));
        thresholdIs("4 4 4 4 0");
        no("101", x.rule(0, 2, 101), 7);
        thresholdIs("4 4 4 4 0");
        yes("0", x.rule(0, 2, 0));
        thresholdIs("0 0 0 0 0");
        spanRules();
    }

    private static void thresholdIs(String want) { gridIs("secret", want, (i, j) -> x.secret(0, i, j)); }

    private static void spanRules() {
        says("3 DOWN, 4 UP (0 to 1,000,000; 1 each),");
        ruleIs(3, 1000000);
        ruleIs(4, 1000000);
        // (0, 0) goes down with (1, 1), and up as (0, 1) and (1, 0) go down.
        calm("*5 *1", "*9 *1");
        spanIs(0, 0, 4, 6);
        due("1 each at first", x.safe(0, 0, 0), 1, 0);
        yes("down 2", x.rule(0, 3, 2));
        due("down 2", x.safe(0, 0, 0), 0, 0);
        yes("down 1", x.rule(0, 3, 1));
        yes("up 2", x.rule(0, 4, 2));
        due("up 2", x.safe(0, 0, 0), 0, 0);
        calm("*5 *1", "*9 *0");
        due("1 down at first", x.safe(0, 0, 0), 0, 0);
        yes("down 0", x.rule(0, 3, 0));
        due("down 0", x.safe(0, 0, 0), 1, 0);
        calm("*5 *0", "*9 *1");
        due("1 up at first", x.safe(0, 0, 0), 0, 0);
        yes("up 0", x.rule(0, 4, 0));
        due("up 0", x.safe(0, 0, 0), 1, 0);
        no("a number that can't be", x.rule(0, 4, 1000001), 7);
        due("up is still 0", x.safe(0, 0, 0), 1, 0);
        calm("*1000000 *1000000", "*1000000 *1000000");
        yes("down", x.rule(0, 3, 1000000));
        yes("up", x.rule(0, 4, 1000000));
        due("a million each way", x.safe(0, 0, 0), 1, 0);
        lay(0, 0, 1, "*999999");
        due("one less", x.safe(0, 0, 0), 0, 0);
        says("5 COSTS (0: each CELL costs 1; 1: its NUMBER and 1; 0).");
        ruleIs(5, 1);
        calm("*5 *0 *s7 *a30+10+2 *1000000 9");
        due("each 1 at first, but the amount is a secret", x.cost(0), 4, 0);
        yes("costs 1", x.rule(0, 5, 1));
        due("their numbers and 1", x.cost(0), 6 + 1 + 8 + 1000001, 0);
        yes("no percent", x.rule(0, 2, 0));
        due("the amount is no secret then", x.cost(0), 6 + 1 + 8 + 43 + 1000001, 0);
        no("costs 2", x.rule(0, 5, 2), 7);
        due("as before", x.cost(0), 6 + 1 + 8 + 43 + 1000001, 0);
        yes("costs 0", x.rule(0, 5, 0));
        due("each 1 again", x.cost(0), 5, 0);
    }

    private static void secrets() {
        says("A CELL of a SOUND ROW is a SECRET (all that hold count: 1, 2, 4, 8): 1 a COUNT from 1 to THRESHOLD;");
        fresh("0 1 3 4 s1 s3 z");
        thresholdIs("0 1 1 0 0 0 0");
        yes("hand", x.hand(0, 0, 1, true));
        thresholdIs("0 9 1 0 0 0 0");
        yes("threshold", x.rule(0, 0, 2));
        thresholdIs("0 9 0 0 0 0 0");
        yes("threshold", x.rule(0, 0, 0));
        thresholdIs("0 8 0 0 0 0 0");
        yes("mark", x.cell(0, 0, 6, 0, 1));
        none("the row is not sound", x.secret(0, 0, 1), 11);
        says("2 an AMOUNT above 0 with fewer GIVERS than are wanted;");
        fresh("a a1 a1+1 a1+1+1");
        yes("percent", x.rule(0, 2, 0));
        for (int wanted = 0; wanted <= 4; wanted++) {
            yes("wanted", x.rule(0, 1, wanted));
            for (int k = 0; k < 4; k++)
                due(k + " givers, " + wanted + " wanted", x.secret(0, 0, k), k > 0 && k < wanted ? 2 : 0, 0);
        }
        yes("a giver more", x.giver(0, 0, 3, 1));
        thresholdIs("0 2 2 0");
        says("4 an AMOUNT above 0 for which 100 times what its two greatest PARTS leave is less than PERCENT times its NUMBER;");
        fresh("a a90 a60+40 a10+40+50 a40+40+20 a20+40+40 a100000+100000+100000+100000+100000+100000");
        yes("wanted", x.rule(0, 1, 0));
        // What the two greatest leave: none, none, none, 10 of 100, 20 of 100, 20 of 100, two thirds.
        int[][] percents = {{0, 0, 0, 0, 0, 0, 0}, {1, 4, 4, 0, 0, 0, 0}, {10, 4, 4, 0, 0, 0, 0}, {11, 4, 4, 4, 0, 0, 0}, {20, 4, 4, 4, 0, 0, 0},
            {21, 4, 4, 4, 4, 4, 0}, {66, 4, 4, 4, 4, 4, 0}, {67, 4, 4, 4, 4, 4, 4}, {100, 4, 4, 4, 4, 4, 4}};
        for (int[] p : percents) {
            yes("percent", x.rule(0, 2, p[0]));
            for (int k = 1; k < 7; k++) due(p[0] + " percent, cell " + k, x.secret(0, 0, k), p[k], 0);
            due("an amount of 0", x.secret(0, 0, 0), 0, 0);
        }
        says("8 a CELL but a ZERO that a hand told.");
        calm("!5 !a !s5 z !a7");
        thresholdIs("8 8 8 0 14");
        no("a zero", x.hand(0, 0, 3, true), 6);
        thresholdIs("8 8 8 0 14");
        yes("told no more", x.hand(0, 0, 0, false));
        thresholdIs("0 8 8 0 14");
        yes("told no more twice", x.hand(0, 0, 0, false));
        yes("told twice", x.hand(0, 0, 1, true));
        thresholdIs("0 8 8 0 14");
    }

    private static void kept() {
        says("KEPT are SECRETS, and CELLS but ZEROS that were told to be (by keep(), plan(), fewest()).");
        calm("!5 *5 5 z", "5 5 5 5");
        keptIs("1 1 0 0 / 0 0 0 0");
        no("a zero", x.keep(0, 0, 3, true), 6);
        yes("keep no more", x.keep(0, 0, 0, false));
        yes("keep no more", x.keep(0, 0, 1, false));
        keptIs("1 0 0 0 / 0 0 0 0");
        due("plan", x.plan(0), 3, 0);
        keptIs("1 1 0 0 / 1 1 0 0");
        yes("keep no more what the plan told", x.keep(0, 1, 1, false));
        keptIs("1 1 0 0 / 1 0 0 0");
        due("fewest", x.fewest(0), 3, 0);
        keptIs("1 1 0 0 / 1 1 0 0");
        yes("keep no more what fewest told", x.keep(0, 0, 1, false));
        keptIs("1 0 0 0 / 1 1 0 0");
        says("What a hand told of a PLACE, and that it is to be KEPT, goes with its CELL.");
        String[] others = {"5", "6", "s5", "a", "z", "m5"};
        for (String other : others) {
            calm("!*5 7");
            lay(0, 0, 0, other);
            lay(0, 0, 0, "5");
            due("secret after " + other, x.secret(0, 0, 0), 0, 0);
            due("kept after " + other, x.kept(0, 0, 0), 0, 0);
        }
        calm("!*5 !*7");
        yes("clear", x.clear(0, 0, 1));
        lay(0, 0, 1, "7");
        thresholdIs("8 0");
        keptIs("1 0");
        no("a refused one changes nothing", x.cell(0, 0, 0, COUNT, -1), 7);
        thresholdIs("8 0");
        calm("!*a5 7");
        yes("an amount with a giver more is the same cell", x.giver(0, 0, 0, 5));
        due("still told", x.secret(0, 0, 0) & 8, 8, 0);
        yes("no secret by others", x.rule(0, 2, 0) && x.hand(0, 0, 0, false));
        due("still to be kept", x.kept(0, 0, 0), 1, 0);
        calm("!*5 !*7");
        yes("close", x.close(0));
        lay(0, "5 7");
        yes("rule", x.rule(0, 0, 0));
        thresholdIs("0 0");
        keptIs("0 0");
    }

    // ---- part 2

    private static void reader() {
        says("==== 2. WHAT A READER KNOWS: the ROWS that are SOUND, BLOCKS, KINDS, NUMBERS of CELLS that are not KEPT, the sum of each "
            + "SOUND ROW, and of each COLUMN in each CLASS (over its SOUND ROWS);");
        String[] ring = {"*5 9 4 / 7 3 8 / 6 6 6", "*5 *9 4 / 7 3 8 / 6 6 6", "*5 9 4 / *7 3 8 / 6 6 6", "*5 *9 4 / *7 3 8 / 6 6 6",
            "*5 *9 *4 / 7 3 8 / 6 6 6", "*5 9 4 / 7 *3 8 / 6 6 *6", "5 9 4 / 7 3 8 / 6 6 6"};
        for (String text : ring) {
            calm(text.split(" / "));
            spanIs(0, 0, 5, 5);
        }
        calm("*5 *9 4", "*7 *3 8", "6 6 6");
        spanIs(0, 0, 2, 12);
        spanIs(0, 1, 2, 12);
        spanIs(1, 0, 0, 10);
        spanIs(1, 1, 0, 10);
        spanIs(2, 2, 6, 6);
        due("a block about both", x.block(0, 0, 1), 1, 0);
        spanIs(0, 0, 2, 12);
        due("a block about one", x.block(0, 1, 1), 2, 0);
        spanIs(0, 0, 5, 5);
        calm("*5 *9 4", "*7 *3 .", "6 6 6");
        spanIs(0, 0, 5, 5);
        calm("*5 *9 4", "*7 z 8", "6 6 6");
        spanIs(0, 0, 5, 5);
        calm("*5 *9 4", "*7 s3 8", "6 6 6");
        spanIs(0, 0, 5, 5);
        // Through three rows: each of the six cells is at the ring's turn.
        calm("*5 *9 4", "6 *3 *8", "*7 6 *6");
        spanIs(0, 0, 2, 12);
        says("of a SHARE its THOUSANDTHS: 1000 times its NUMBER by its ROW's sum, rounded down (0 where that sum is 0).");
        String[] rows = {"s1 999", "s1 1000", "s999 1", "s5 0", "s0 5", "s0 0", "s2 1", "s1 2", "s1000000 s1000000", "s999999 1000000",
            "s0", "s1", "s1 z", "s0 1", "s1000000"};
        int[] want = {1, 0, 999, 1000, 0, 0, 666, 333, 500, 499, 0, 1000, 1000, 0, 1000};
        for (int k = 0; k < rows.length; k++) {
            calm(rows[k]);
            due(rows[k], x.thousandths(0, 0, 0), want[k], 0);
        }
        calm("s1000000 1000000 1000000 1000000 1000000 1000000 1000000 1000000 1000000 1000000 1000000 1000000");
        due("a twelfth", x.thousandths(0, 0, 0), 83, 0);
        shares();
    }

    private static void shares() {
        // 400 thousandths of 2500 are 1000, 1001 and 1002.
        calm("*s1000 *1500", "*50 *50");
        spanIs(0, 0, 1000, 1002);
        spanIs(0, 1, 1498, 1500);
        spanIs(1, 0, 48, 50);
        spanIs(1, 1, 50, 52);
        calm("*s1002 *1498", "*50 *50");
        spanIs(0, 0, 1000, 1002);
        spanIs(1, 1, 48, 50);
        calm("*s1002 *1498", "*50 *1");
        spanIs(0, 0, 1001, 1002);
        // 0 thousandths of 2500 are 0, 1 and 2; all 1000 of them are 2500 alone, as no other part is left.
        calm("*s0 *2500", "*50 *50");
        spanIs(0, 0, 0, 2);
        calm("*s2500 *0", "*50 *50");
        spanIs(0, 0, 2500, 2500);
        calm("*s2498 *2", "*50 *50");
        spanIs(0, 0, 2498, 2499);
        calm("*s0 *s0", "*50 *50");
        spanIs(0, 0, 0, 0);
        // A share of 1 in a sum of 1, and one of 142 thousandths of 7, just below 143 of them.
        calm("*s1 *0", "*0 *1");
        spanIs(0, 0, 1, 1);
        calm("*s1 *6", "*5 *5");
        spanIs(0, 0, 1, 1);
        // A count in the place of a share is bound by it no more.
        calm("*s1000 *1500", "*50 *50");
        spanIs(0, 0, 1000, 1002);
        lay(0, 0, 0, "*1000");
        spanIs(0, 0, 950, 1050);
        calm("*5 *9", "*s7 *s3");
        spanIs(0, 0, 5, 5);
        // 83 thousandths of 12 million, in numbers beyond what fits one int times 1000.
        calm("*s1000000 *1000000 1000000 1000000 1000000 1000000 1000000 1000000 1000000 1000000 1000000 1000000",
            "*900000 *900000 0 0 0 0 0 0 0 0 0 0");
        spanIs(0, 0, 996000, 1007999);
    }

    private static void spans() {
        says("A table AGREES if it has NUMBERS (whole, 0 or more) with just these.");
        calm("*1000000 *1000000", "*1000000 *1000000");
        spanIs(0, 0, 0, 2000000);
        calm("*0 *0", "*0 *0");
        spanIs(0, 0, 0, 0);
        calm("*1 *0", "*0 *0");
        spanIs(0, 0, 1, 1);
        calm("*1 *0", "*0 *1");
        spanIs(0, 0, 0, 1);
        calm("*1 *s1 *1", "*1 *1 *1", "*1 *1 *1");
        spanIs(0, 1, 1, 1);
        spanIs(0, 0, 0, 2);
        says("The SPAN of a CELL of a SOUND ROW goes from its LEAST to its GREATEST NUMBER in tables that AGREE.");
        calm("*4");
        spanIs(0, 0, 4, 4);
        calm("*4 *5 *6 *7 *8 *9 *1 *2 *3 *4 *5 *6");
        for (int j = 0; j < 12; j++) spanIs(0, j, x.number(0, 0, j), x.number(0, 0, j));
        calm("*4", "*5", "*6", "*7", "*8", "*9", "*1", "*2", "*3", "*4", "*5", "*6");
        for (int i = 0; i < 12; i++) spanIs(i, 0, x.number(0, i, 0), x.number(0, i, 0));
        allKept();
        calm("*4 *5", "*6 .");
        none("not sound", x.least(0, 1, 0), 11);
        none("not sound", x.greatest(0, 1, 0), 11);
        safe();
    }

    /** With all kept a cell goes up to the lesser of its sums, and down to what the rest of the table can't take. */
    private static void allKept() {
        int[][] numbers = new int[12][12];
        int[] row = new int[12];
        int[] column = new int[12];
        int all = 0;
        x = new CellKeeper();
        yes("open", x.open(0, 12, 12));
        yes("rule", x.rule(0, 0, 0));
        for (int i = 0; i < 12; i++)
            for (int j = 0; j < 12; j++) {
                numbers[i][j] = i == 0 && j == 0 ? 1000000 : (i * 5 + j * 7) % 11;
                row[i] += numbers[i][j];
                column[j] += numbers[i][j];
                all += numbers[i][j];
                yes("cell", x.cell(0, i, j, COUNT, numbers[i][j]) && x.keep(0, i, j, true));
            }
        for (int i = 0; i < 12; i++)
            for (int j = 0; j < 12; j++) spanIs(i, j, Math.max(0, row[i] + column[j] - all), Math.min(row[i], column[j]));
    }

    private static void safeIs(int down, int up, int row, int column, int want) {
        yes("down", x.rule(0, 3, down));
        yes("up", x.rule(0, 4, up));
        due("safe " + row + ", " + column + " with " + down + " down, " + up + " up", x.safe(0, row, column), want, 0);
    }

    private static void safe() {
        says("It is SAFE if LEAST is not above its NUMBER less DOWN (or is 0), and GREATEST not below its NUMBER and UP.");
        calm("*5 *9", "*7 *3");
        // 2 to 12 about 5.
        safeIs(3, 7, 0, 0, 1);
        safeIs(4, 7, 0, 0, 0);
        safeIs(3, 8, 0, 0, 0);
        safeIs(4, 8, 0, 0, 0);
        safeIs(0, 0, 0, 0, 1);
        safeIs(5, 7, 0, 0, 0);
        safeIs(6, 7, 0, 0, 0);
        safeIs(1000000, 7, 0, 0, 0);
        safeIs(3, 1000000, 0, 0, 0);
        // 0 to 10 about 3, and 0 to 10 about 7.
        safeIs(3, 7, 1, 1, 1);
        safeIs(4, 7, 1, 1, 1);
        safeIs(1000000, 7, 1, 1, 1);
        safeIs(1000000, 8, 1, 1, 0);
        safeIs(7, 3, 1, 0, 1);
        safeIs(8, 3, 1, 0, 1);
        safeIs(8, 4, 1, 0, 0);
        calm("5 0 z");
        safeIs(0, 0, 0, 0, 1);
        safeIs(1, 0, 0, 0, 0);
        safeIs(0, 1, 0, 0, 0);
        safeIs(1, 0, 0, 1, 1);
        safeIs(1000000, 0, 0, 1, 1);
        safeIs(0, 1, 0, 1, 0);
        safeIs(1000000, 0, 0, 2, 1);
        safeIs(0, 1, 0, 2, 0);
        calm("*s1000 *1500", "*50 *50");
        safeIs(0, 2, 0, 0, 1);
        safeIs(0, 3, 0, 0, 0);
        safeIs(1, 2, 0, 0, 0);
        calm("*s1002 *1498", "*50 *50");
        safeIs(2, 0, 0, 0, 1);
        safeIs(3, 0, 0, 0, 0);
        safeIs(2, 1, 0, 0, 0);
        calm("*s2 *2498", "*50 *50");
        safeIs(1000000, 0, 0, 0, 1);
        safeIs(1000000, 1, 0, 0, 0);
    }

    private static void witness() {
        says("The WITNESS of an end of a SPAN is the first table that AGREES and has the CELL there: first is what has the lesser "
            + "NUMBER in the first PLACE (ROW by ROW) in which they differ.");
        calm("*1 *1 *1", "*1 *1 *1", "*1 *1 *1");
        witnessIs(1, 1, true, 3, "0 0 3 / 0 3 0 / 3 0 0");
        witnessIs(1, 1, false, 0, "0 0 3 / 3 0 0 / 0 3 0");
        witnessIs(0, 0, true, 3, "3 0 0 / 0 0 3 / 0 3 0");
        witnessIs(0, 0, false, 0, "0 0 3 / 0 3 0 / 3 0 0");
        witnessIs(2, 2, true, 3, "0 3 0 / 3 0 0 / 0 0 3");
        witnessIs(2, 0, false, 0, "0 0 3 / 3 0 0 / 0 3 0");
        // Every class has its first numbers, those too in which the cell is not.
        calm("*5 *5", "*5 *5", "*5 *5", "*5 *5");
        due("block", x.block(0, 2, 3), 1, 0);
        witnessIs(2, 0, true, 10, "0 10 / 10 0 / 10 0 / 0 10");
        witnessIs(3, 0, false, 0, "0 10 / 10 0 / 10 0 / 0 10");
        witnessIs(0, 0, true, 10, "10 0 / 0 10 / 0 10 / 10 0");
        calm("*5 *5 7", "*5 *5 z", "*9 *9 *9", ". *1 *1");
        due("block", x.block(0, 2, 3), 1, 0);
        witnessIs(0, 2, true, 7, "0 10 7 / 10 0 0 / 9 9 9 / -1 -1 -1");
        witnessIs(1, 2, false, 0, "0 10 7 / 10 0 0 / 9 9 9 / -1 -1 -1");
        calm("*s1000 *1500", "*50 *50");
        witnessIs(1, 1, true, 52, "1002 1498 / 48 52");
        witnessIs(1, 1, false, 50, "1000 1500 / 50 50");
        calm("*1000000 *1000000", "*1000000 *1000000");
        witnessIs(0, 1, false, 0, "2000000 0 / 0 2000000");
        calm("7");
        witnessIs(0, 0, true, 7, "7");
        calm("*7");
        witnessIs(0, 0, false, 7, "7");
    }

    private static void witnessIs(int row, int column, boolean greatest, int end, String table) {
        due("witness of " + row + ", " + column, x.witness(0, row, column, greatest), end, 0);
        seenIs(table);
    }

    private static void cutIs(int row, int column, boolean greatest, String rows, String columns) {
        due("status", x.witness(0, row, column, greatest) < 0 ? 1 : 0, 0, 0);
        cutIs(rows, columns);
    }

    private static void cut() {
        says("The CUT of an end: nodes are the SOUND ROWS of its CLASS and the COLUMNS.");
        calm("*5 *5", "*9 *9", "*5 *5", "*9 *9", "*5 .");
        due("block", x.block(0, 2, 4), 1, 0);
        // 10 0 / 4 14: the steps go everywhere within the class.
        cutIs(2, 1, false, "00110", "11");
        cutIs(0, 1, false, "11000", "11");
        due("no row of the table", x.cut(true, 5), -1, 0);
        due("no column of the table", x.cut(false, 2), -1, 0);
        says("For GREATEST: there is a STEP from ROW i to COLUMN j, if the KEPT CELL there can be more than the WITNESS has it "
            + "(by what a reader knows of it alone: no bound but a SHARE's THOUSANDTHS), one from COLUMN j to ROW i, if it can be less; "
            + "the CELL itself gives none.");
        // 12 0 / 0 7: from column 0 no other cell can be less.
        calm("*5 *7", "*7 *0");
        cutIs(0, 0, true, "00", "10");
        // 6 2 9 / 0 7 8 / 6 6 6 with (2, 0) kept: from it to its row, and no farther.
        calm("*5 *3 9", "*1 *6 8", "*6 6 6");
        cutIs(0, 0, true, "001", "100");
        // With (2, 1) kept too, to column 1, and so to the rows that have something there.
        calm("*5 *3 9", "*1 *6 8", "*6 *6 6");
        due("witness", x.witness(0, 0, 0, true), 8, 0);
        seenIs("8 0 9 / 0 7 8 / 4 8 6");
        cutIs("011", "110");
        // A number is bound by nothing: (0, 1) has all of its row and column, and a step leads to column 1 all the same.
        calm("*5 *0", "*0 *5");
        due("witness", x.witness(0, 0, 0, false), 0, 0);
        seenIs("0 5 / 5 0");
        cutIs("10", "01");
        shareCuts();
        says("CUT are the nodes that STEPS lead to from the CELL's COLUMN on (that too).");
        calm("*1 *1 *1", "*1 *1 *1", "*1 *1 *1");
        cutIs(0, 0, true, "000", "100");
        cutIs(1, 2, true, "000", "001");
        says("For LEAST: from its ROW on.");
        cutIs(0, 0, false, "111", "111");
        calm("*5 *9", "*7 *3");
        cutIs(0, 0, false, "10", "01");
        cutIs(0, 1, false, "10", "10");
        cutIs(1, 1, false, "11", "11");
        calm("*4");
        cutIs(0, 0, false, "1", "0");
        cutIs(0, 0, true, "0", "1");
        says("(Of a CELL that is not KEPT: its COLUMN, its ROW alone.)");
        calm("*1 *1 *1", "*1 1 *1", "*1 *1 *1");
        cutIs(1, 1, true, "000", "010");
        cutIs(1, 1, false, "010", "000");
        calm("z *5", "*5 *5");
        cutIs(0, 0, true, "00", "10");
        cutIs(0, 0, false, "10", "00");
    }

    private static void shareCuts() {
        calm("*s1000 *1500", "*50 *50");
        // 1002 1498 / 48 52: (0, 0) can't be more, so that row 0 leads to no column but that of (0, 1).
        cutIs(1, 1, true, "10", "01");
        // It is the share itself that ends here: the steps go round to its row.
        cutIs(0, 0, true, "11", "11");
        cutIs(0, 0, false, "11", "11");
        // 1000 1500 / 50 50: (0, 0) can't be less, so that column 0 leads to row 1 alone.
        cutIs(0, 1, true, "01", "11");
        cutIs(1, 1, false, "01", "10");
        // A share of a sum of 0 has 0 thousandths whatever it is.
        calm("*s0 *s0", "5 5");
        cutIs(0, 0, false, "10", "01");
    }

    // ---- part 3

    private static void plan() {
        says("==== 3. GUARDS. PLAN: as long as a SECRET is not SAFE: for the first such by PLACES, of ROW r and COLUMN c: of all other ROWS q "
            + "of its CLASS (SOUND) and other COLUMNS d for which the CELLS (r, d), (q, c), (q, d) are no ZEROS and one of them is not KEPT: "
            + "that with the least COST (the sum for those of the three that are not KEPT), the first q, then the first d of these: "
            + "the three are told to be KEPT.");
        planIs("9 9 9 / 9 9 9", 0, "0 0 0 / 0 0 0");
        planIs("!5 !5 / !5 !5", 0, "1 1 / 1 1");
        planIs("9 9 9 / 9 !9 9 / 9 9 9", 3, "1 1 0 / 1 1 0 / 0 0 0");
        planIs("!9 9 9 / 9 9 9 / 9 9 9", 3, "1 1 0 / 1 1 0 / 0 0 0");
        planIs("9 9 9 / 9 9 9 / 9 9 !9", 3, "1 0 1 / 0 0 0 / 1 0 1");
        // One round for each that is not safe, the first by places first; then both are.
        planIs("!9 9 z / 9 9 9 / z 9 !9", 5, "1 1 0 / 1 1 1 / 0 1 1");
        // The other secret is kept, and so makes the ring with it the cheapest.
        planIs("!9 9 9 / 9 9 9 / 9 9 !9", 2, "1 0 1 / 0 0 0 / 1 0 1");
        planIs("!9 9 9 / 9 !9 9 / 9 9 9", 2, "1 1 0 / 1 1 0 / 0 0 0");
        // Zeros, torn rows and other classes are gone round.
        planIs("!9 z 9 / 9 9 9 / 9 9 9", 3, "1 0 1 / 1 0 1 / 0 0 0");
        planIs("!9 9 9 / z 9 9 / 9 9 9", 3, "1 1 0 / 0 0 0 / 1 1 0");
        planIs("!9 9 9 / 9 z 9 / 9 9 9", 3, "1 0 1 / 1 0 1 / 0 0 0");
        planIs("!9 9 9 / 9 9 . / 9 9 9", 3, "1 1 0 / -1 -1 -1 / 1 1 0");
        calm("!9 9", "9 9", "9 9");
        due("block", x.block(0, 1, 1), 1, 0);
        due("plan", x.plan(0), 3, 0);
        keptIs("1 1 / 0 0 / 1 1");
        planCosts();
        planRounds();
        planFails();
    }

    private static void planIs(String text, int more, String kept) {
        calm(text.split(" / "));
        due("plan of " + text, x.plan(0), more, 0);
        keptIs(kept);
        due("unsafe", x.unsafe(0), 0, 0);
    }

    private static void planCosts() {
        // What is kept costs nothing, so the dearer of the two is the one with two cells that are not.
        planIs("!9 9 *9 / 9 9 9 / 9 9 9", 2, "1 0 1 / 1 0 1 / 0 0 0");
        planIs("!9 9 9 / 9 9 9 / 9 9 *9", 2, "1 0 1 / 0 0 0 / 1 0 1");
        // (0, 2) and (2, 0) cost the same: the first row; (1, 0) and (1, 2) in one row: the first column.
        costly("20 10 10 / 10 !5 10 / 10 10 20", 3, "0 1 1 / 0 1 1 / 0 0 0");
        costly("9 9 9 / 5 !5 5 / 9 8 9", 3, "0 0 0 / 1 1 0 / 1 1 0");
        // A number of 0 costs 1.
        costly("!5 7 0 / 7 7 5 / 7 7 7", 3, "1 0 1 / 1 0 1 / 0 0 0");
        calm("!5 1000000", "1000000 1000000");
        yes("costs", x.rule(0, 5, 1));
        due("the dearest of all", x.plan(0), 3, 0);
        due("cost", x.cost(0), 3000003, 0);
    }

    private static void costly(String text, int more, String kept) {
        calm(text.split(" / "));
        yes("up", x.rule(0, 4, 0));
        yes("costs", x.rule(0, 5, 1));
        due("plan of " + text, x.plan(0), more, 0);
        keptIs(kept);
    }

    private static void planRounds() {
        // A ring that is all kept is no help: the next one is taken, till the secret goes up by 8.
        calm("!2 4 4", "4 4 4", "4 4 4");
        yes("up", x.rule(0, 4, 8));
        due("plan", x.plan(0), 7, 0);
        keptIs("1 1 1 / 1 1 1 / 1 1 0");
        spanIs(0, 0, 0, 10);
        yes("up", x.rule(0, 4, 9));
        none("no farther", x.plan(0), 10);
        keptIs("1 1 1 / 1 1 1 / 1 1 0");
        // Of the three those too are told that are secrets, but they are no more kept by it than before.
        calm("!9 9", "9 !9");
        due("plan", x.plan(0), 2, 0);
        yes("hand no more", x.hand(0, 1, 1, false) && x.hand(0, 0, 0, false));
        keptIs("0 1 / 1 1");
    }

    private static void planFails() {
        says("If there is none, the plan fails, and changes nothing.");
        String[] fails = {"!5", "!5 5 5", "!5 / 5 / 5", "!5 z / 5 5", "!5 5 / z 5", "!5 5 / 5 z", "!5 5 / 5 .", "!5 5 / 5 m1", "!5 *0 / *5 *5"};
        for (String text : fails) {
            calm(text.split(" / "));
            refused("plan of " + text, () -> x.plan(0), 10);
        }
        // The first secret could be guarded, the second one can't: nothing is kept for the first either.
        calm("!5 5", "5 5", "!5 5");
        due("block", x.block(0, 2, 2), 1, 0);
        refused("plan", () -> x.plan(0), 10);
        keptIs("1 0 / 0 0 / 1 0");
        yes("hand no more", x.hand(0, 0, 0, false) && x.hand(0, 2, 0, false));
        due("nothing of it comes later", x.plan(0), 0, 0);
        keptIs("0 0 / 0 0 / 0 0");
        yes("hand", x.hand(0, 0, 0, true) && x.hand(0, 2, 0, true));
        yes("tear", x.tear(0, 2, 1));
        due("plan", x.plan(0), 3, 0);
        largeAndSmall();
    }

    /** What a large table has is not looked at in a small one that comes after it. */
    private static void largeAndSmall() {
        x = new CellKeeper();
        yes("open", x.open(0, 12, 12) && x.open(1, 2, 2) && x.rule(1, 0, 0));
        for (int k = 0; k < 144; k++) yes("cell", x.cell(0, k / 12, k % 12, COUNT, 3));
        yes("torn", x.tear(0, 5, 11));
        for (int k = 0; k < 4; k++) yes("cell", x.cell(1, k / 2, k % 2, COUNT, 5));
        yes("a zero", x.cell(1, 1, 1, ZERO, 0) && x.hand(1, 0, 0, true));
        due("the large one", x.plan(0), 0, 0);
        none("no third row or column", x.plan(1), 10);
        due("the large one", x.fewest(0), 0, 0);
        none("no third row or column", x.fewest(1), 10);
        due("the large one", x.unsafe(0), 0, 0);
        due("the small one", x.unsafe(1), 1, 0);
        due("seven or eight in each row of the large one", x.round(0, 5) / 11, 7, 0);
        due("the small one", x.round(1, 3), 2, 0);
        roundedIs("3 6 / 6 0");
        due("no more than it has", x.rounded(2, 0) + x.rounded(0, 2), -2);
    }

    private static void fewest() {
        says("FEWEST: of all sets (of none, too) of CELLS that are no SECRETS and no ZEROS (of SOUND ROWS; at most 8 such) with which, "
            + "KEPT beside the SECRETS alone, all SECRETS are SAFE: that with the least COST; of these the first: of two that with the CELL "
            + "in the first PLACE (ROW by ROW) that is in one alone.");
        fewestIs("9 9 9 / 9 9 z", 0, 0, "0 0 0 / 0 0 0");
        fewestIs("!5 !5 / !5 !5", 0, 0, "1 1 / 1 1");
        fewestIs("!5 9 9 / 9 9 9", 0, 3, "1 1 0 / 1 1 0");
        fewestIs("9 9 9 / 9 9 !5", 0, 3, "1 0 1 / 1 0 1");
        fewestIs("!5 z 9 / 9 9 9", 0, 3, "1 0 1 / 1 0 1");
        fewestIs("!5 9 9 / 9 9 9 / 9 9 9", 0, 3, "1 1 0 / 1 1 0 / 0 0 0");
        // Ties in the row of the secret, and one of its column.
        fewestIs("!5 9 9 / 9 9 9 / 9 9 9", 1, 30, "1 1 0 / 1 1 0 / 0 0 0");
        fewestIs("!5 9 8 / 9 9 9 / 9 9 9", 1, 29, "1 0 1 / 1 0 1 / 0 0 0");
        fewestIs("!5 9 9 / 9 9 9 / 8 9 9", 1, 29, "1 1 0 / 0 0 0 / 1 1 0");
        // Two at once: the ring through both, and one that lies in another class.
        fewestIs("!5 9 9 / 9 !5 9", 0, 2, "1 1 0 / 1 1 0");
        // More cells can cost less.
        fewestIs("!9 2 90 / 90 2 2 / 2 90 2", 1, 15, "1 1 0 / 0 1 1 / 1 0 1");
        fewestEdges();
        fewestForgets();
    }

    private static void fewestIs(String text, int costs, int price, String kept) {
        calm(text.split(" / "));
        yes("costs", x.rule(0, 5, costs));
        due("fewest of " + text, x.fewest(0), price, 0);
        keptIs(kept);
        due("cost", x.cost(0), price, 0);
        due("unsafe", x.unsafe(0), 0, 0);
    }

    private static void fewestEdges() {
        calm("9 9 9", "9 9 9", "9 9 9");
        refused("nine, though there is no secret", () -> x.fewest(0), 8);
        yes("eight and a zero", x.cell(0, 2, 2, ZERO, 0));
        due("fewest", x.fewest(0), 0, 0);
        yes("nine", x.cell(0, 2, 2, COUNT, 0));
        refused("nine", () -> x.fewest(0), 8);
        yes("eight and a secret", x.hand(0, 2, 2, true));
        due("fewest", x.fewest(0), 3, 0);
        x = new CellKeeper();
        yes("open", x.open(0, 12, 12));
        for (int k = 0; k < 144; k++) yes("cell", x.cell(0, k / 12, k % 12, COUNT, k < 9 ? 4 : 3));
        none("nine of 144", x.fewest(0), 8);
        yes("eight of 144", x.cell(0, 0, 8, COUNT, 3));
        due("fewest", x.fewest(0), 0, 0);
    }

    private static void fewestForgets() {
        says("What was told to be KEPT before, in any ROW, is not looked at, and is so no more.");
        calm("!5 9 *9", "9 9 *9", "*9 *9 .");
        due("fewest", x.fewest(0), 3, 0);
        keptIs("1 1 0 / 1 1 0 / -1 -1 -1");
        lay(0, 2, 2, "9");
        keptIs("1 1 0 / 1 1 0 / 0 0 0");
        calm("!*5 9", "9 9");
        due("fewest", x.fewest(0), 3, 0);
        yes("hand no more", x.hand(0, 0, 0, false));
        keptIs("0 1 / 1 1");
        // One that is refused leaves all as it was told.
        calm("!5 *9", "z *9", "*9 .");
        refused("fewest", () -> x.fewest(0), 10);
        lay(0, 2, 1, "9");
        keptIs("1 1 / 0 1 / 1 0");
        // Those of another table stay.
        lay(1, "*9 9");
        due("fewest", x.fewest(0), 3, 0);
        due("kept in the other table", x.kept(1, 0, 0), 1, 0);
    }

    private static void roundIs(String text, int base, int above, String want) {
        calm(text.split(" / "));
        due(text + " to " + base, x.round(0, base), above, 0);
        roundedIs(want);
    }

    private static void rounded() {
        says("ROUNDED to a BASE (2 to 1000) is a table, if each CELL of a SOUND ROW is the multiple of BASE next below it or next above it "
            + "(one that is a multiple stays), and sums of ROWS, and of COLUMNS in CLASSES, differ from the true ones by less than BASE.");
        calm("5");
        for (int base : new int[] {1, 0, -1, -2, 1001, LOWEST, HIGHEST}) none("base " + base, x.round(0, base), 7);
        roundIs("3", 2, 0, "2");
        roundIs("999", 1000, 0, "0");
        roundIs("1000000 999999", 1000, 0, "1000000 999000");
        roundIs("0 z s0 a", 7, 0, "0 0 0 0");
        roundIs("10 20 / 30 40", 10, 0, "10 20 / 30 40");
        // A sum of 5 may be 0 with a base of 6, one of 6 must stay, one of 7 may not be 0.
        roundIs("3 2", 6, 0, "0 0");
        roundIs("3 3", 6, 1, "0 6");
        roundIs("3 4", 6, 1, "0 6");
        roundIs("3 / 2", 6, 0, "0 / 0");
        roundIs("3 / 3", 6, 1, "0 / 6");
        roundIs("3 / 4", 6, 1, "0 / 6");
        roundIs("5 5 5", 6, 2, "0 6 6");
        roundIs("1 1 1 1 1 1 1 1 1 1 1 1", 2, 6, "0 0 0 0 0 0 2 2 2 2 2 2");
        calm("3", "3", "3");
        due("block", x.block(0, 1, 1), 1, 0);
        due("columns in classes", x.round(0, 6), 1, 0);
        roundedIs("0 / 0 / 6");
        roundIs("3 3 / 3 . / 3 3", 6, 2, "0 6 / -1 -1 / 6 0");
        says("There is always one; ROUNDED is the first: that which is below in the first PLACE (ROW by ROW) in which two differ.");
        roundIs("3 3 / 3 3", 5, 2, "0 5 / 5 0");
        roundIs("3 3 3 / 3 3 3 / 3 3 3", 9, 3, "0 0 9 / 0 9 0 / 9 0 0");
        roundIs("4 4 4 / 4 4 4 / 4 4 4", 10, 4, "0 0 10 / 0 0 10 / 10 10 0");
        // Row 0 wants one or two above; (0, 0) alone in its column may be below.
        roundIs("8 1 9 / 0 9 0 / 0 0 9", 10, 2, "0 0 10 / 0 10 0 / 0 0 0");
        alwaysOne();
    }

    /** All ways to round a small table, the first that may be. */
    private static String firstOf(String text, int base) {
        int rows = text.split(" / ").length;
        int[] numbers = Arrays.stream(text.replace("/", "").trim().split(" +")).mapToInt(Integer::parseInt).toArray();
        int columns = numbers.length / rows;
        for (int code = 0; code < 1 << numbers.length; code++) {
            int[] off = new int[rows + columns];
            StringBuilder found = new StringBuilder();
            boolean can = true;
            for (int k = 0; k < numbers.length; k++) {
                boolean up = (code >> (numbers.length - 1 - k) & 1) == 1;
                can &= !up || numbers[k] % base != 0;
                int to = numbers[k] / base * base + (up ? base : 0);
                off[k / columns] += to - numbers[k];
                off[rows + k % columns] += to - numbers[k];
                found.append(k == 0 ? "" : k % columns == 0 ? " / " : " ").append(to);
            }
            for (int o : off) can &= Math.abs(o) < base;
            if (can) return found.toString();
        }
        return "none";
    }

    private static void alwaysOne() {
        int next = 1;
        for (int turn = 0; turn < 300; turn++) {
            StringBuilder text = new StringBuilder();
            for (int k = 0; k < 12; k++) {
                next = next * 1103515245 + 12345;
                text.append(k == 0 ? "" : k % 4 == 0 ? " / " : " ").append((next >>> 16) % 23);
            }
            int base = 2 + turn % 17;
            calm(text.toString().split(" / "));
            due("status", x.round(0, base) < 0 ? 1 : 0, 0, 0);
            roundedIs(firstOf(text.toString(), base));
        }
    }

    private static void given() {
        says("GIVEN OUT is a TABLE without a SECRET that is not SAFE: a GIFT, numbered from 0 (at most 16): of each PLACE whether its ROW "
            + "is SOUND, whether it is KEPT, and the NUMBER where not.");
        calm("!5 9 s3", "9 9 a4+5+6", "9 z .");
        refused("not safe", () -> x.give(0), 10);
        due("plan", x.plan(0), 3, 0);
        due("give", x.give(0), 0, 0);
        giftIs(0, "-2 -2 3 / -2 -2 15 / -3 -3 -3");
        // A cell that is not safe but no secret does not matter, nor does what is not sound.
        calm("*5 9", "9 0", "!3 .");
        due("give", x.give(0), 0, 0);
        giftIs(0, "-2 9 / 9 0 / -3 -3");
        yes("later changes", x.cell(0, 0, 1, COUNT, 8) && x.keep(0, 1, 0, true) && x.tear(0, 1, 0));
        giftIs(0, "-2 9 / 9 0 / -3 -3");
        yes("close", x.close(0));
        giftIs(0, "-2 9 / 9 0 / -3 -3");
        lay(4, "z");
        for (int k = 1; k < 16; k++) due("give", x.give(4), k, 0);
        refused("a seventeenth", () -> x.give(4), 8);
        due("the sixteenth", x.gift(15, 0, 0), 0);
        says("Two GIFTS AGREE if PLACES that both give have the same NUMBERS.");
        calm("5 6", "7 8");
        due("give", x.give(0), 0, 0);
        yes("a kept one is not given", x.cell(0, 0, 0, COUNT, 4) && x.keep(0, 0, 0, true));
        due("give", x.give(0), 1, 0);
        due("agree", x.agree(0, 1), -2, 0);
        yes("one of a row that is not sound is not given", x.cell(0, 1, 0, COUNT, 4) && x.clear(0, 1, 1));
        due("give", x.give(0), 2, 0);
        due("agree", x.agree(2, 0), -2, 0);
        lay(1, "5 6 9", "7 8 9", "9 9 9");
        due("give", x.give(1), 3, 0);
        due("places that one alone has", x.agree(0, 3), -2, 0);
        due("both ways", x.agree(3, 0), -2, 0);
        lay(2, "z s6", "a1+6 8");
        yes("no percent", x.rule(2, 2, 0));
        due("give", x.give(2), 4, 0);
        due("numbers alone count, not kinds", x.agree(0, 4), 0, 0);
        yes("cell", x.cell(2, 0, 0, SHARE, 5));
        due("give", x.give(2), 5, 0);
        due("numbers alone count, not kinds", x.agree(5, 0), -2, 0);
    }

    // ---- part 4

    private static void statuses() {
        says("==== 4. A call's STATUS is the first of these that holds: 1 no such TABLE, or it isn't open (of open(): it is).");
        x = new CellKeeper();
        no("open, with numbers that can't be too", x.open(-1, 0, 13), 1);
        yes("open", x.open(0, 1, 1));
        no("open what is open", x.open(0, 1, 1), 1);
        no("open what is open, with numbers that can't be", x.open(0, 13, -1), 1);
        placeCalls().forEach((name, call) -> none(name, call.at(1, -1, 99), 1));
        no("rule", x.rule(1, 9, -1), 1);
        no("cell", x.cell(1, -1, -1, 9, -1), 1);
        no("giver", x.giver(6, 0, 0, 0), 1);
        none("part", x.part(5, 0, 0, -1), 1);
        no("tear", x.tear(1, -1, -1), 1);
        none("block", x.block(1, 5, 4), 1);
        none("round", x.round(1, 1), 1);
        none("sound", x.sound(1, -1), 1);
        none("sum", x.sum(1, -1), 1);
        none("total", x.total(1, -1, -1), 1);
        says("2 no such ROW or COLUMN (of open(), block(): numbers that can't be).");
        calm("5 5", "5 5", "5 5");
        yes("missing", x.tear(0, 1, 0));
        yes("torn", x.tear(0, 2, 1));
        placeCalls().forEach((name, call) -> {
            for (int row = 0; row < 3; row++) {
                none(name, call.at(0, row, 2), 2);
                none(name, call.at(0, row, -1), 2);
            }
            none(name, call.at(0, 3, 0), 2);
            none(name, call.at(0, -1, 0), 2);
        });
        no("cell", x.cell(0, 1, 2, 9, -1), 2);
        no("giver", x.giver(0, 3, 0, 0), 2);
        none("part", x.part(0, 0, 2, 9), 2);
        no("tear", x.tear(0, 3, -1), 2);
        no("tear", x.tear(0, -1, 9), 2);
        none("sum", x.sum(0, 3), 2);
        none("total", x.total(0, 1, 2), 2);
        none("total", x.total(0, 3, 0), 2);
        none("sound", x.sound(0, 3), 2);
        none("block", x.block(0, 2, 1), 2);
        no("open", x.open(1, 0, 1), 2);
        laterStatuses();
    }

    private static void laterStatuses() {
        says("3 the ROW is MISSING.");
        placeCalls().forEach((name, call) -> {
            none(name, call.at(0, 1, 0), 3);
            none(name, call.at(0, 1, 1), 3);
        });
        no("cell of no kind", x.cell(0, 1, 1, 9, -1), 3);
        no("giver without a part", x.giver(0, 1, 0, 0), 3);
        none("no such part", x.part(0, 1, 0, -1), 3);
        for (int places : new int[] {-1, 0, 1, 9, LOWEST}) no("tear", x.tear(0, 1, places), 3);
        says("4 it has not so many PLACES.");
        placeCalls().forEach((name, call) -> none(name, call.at(0, 2, 1), 4));
        no("cell of no kind", x.cell(0, 2, 1, 9, -1), 4);
        no("giver without a part", x.giver(0, 2, 1, 0), 4);
        none("no such part", x.part(0, 2, 1, -1), 4);
        for (int places : new int[] {2, 3, HIGHEST}) no("tear", x.tear(0, 2, places), 4);
        says("5 NOTHING is there.");
        fresh(". m5 5 z s5 a5 a1+1+1+1+1+1");
        filledCalls().forEach((name, call) -> none(name, call.at(0, 0, 0), 5));
        no("giver without a part", x.giver(0, 0, 0, 0), 5);
        none("no such part", x.part(0, 0, 0, -1), 5);
        due("kind", x.kind(0, 0, 0), 0, 0);
        says("6 what is there is of another KIND than is wanted.");
        soundCalls().forEach((name, call) -> none(name, call.at(0, 0, 1), 6));
        for (int j : new int[] {1, 2, 3, 4}) {
            no("giver", x.giver(0, 0, j, 5), 6);
            no("giver without a part", x.giver(0, 0, j, 0), 6);
            none("givers", x.givers(0, 0, j), 6);
            none("no such part", x.part(0, 0, j, -1), 6);
        }
        for (int j : new int[] {1, 3}) {
            no("hand", x.hand(0, 0, j, true), 6);
            no("hand", x.hand(0, 0, j, false), 6);
            no("keep", x.keep(0, 0, j, true), 6);
            no("keep", x.keep(0, 0, j, false), 6);
        }
        for (int j : new int[] {2, 3, 5}) none("thousandths, of a row that is not sound", x.thousandths(0, 0, j), 6);
        says("7 a number that can't be.");
        no("giver, a seventh", x.giver(0, 0, 6, 0), 7);
        none("part", x.part(0, 0, 6, 6), 7);
        no("cell", x.cell(0, 0, 0, 5, 5), 7);
        no("rule", x.rule(0, 6, 0), 7);
        no("tear", x.tear(0, 0, -1), 7);
        none("round", x.round(0, 1), 7);
        lastStatuses();
    }

    private static void lastStatuses() {
        says("8 one too many.");
        no("giver", x.giver(0, 0, 6, 1), 8);
        x = new CellKeeper();
        yes("open", x.open(0, 12, 1));
        for (int k = 0; k < 12; k++) due("block", x.block(0, k, k), k + 1, 0);
        none("block", x.block(0, 0, 11), 8);
        none("block that may not lie so", x.block(0, 0, 0), 8);
        fresh("!5 5 5", "5 5 5", "5 5 z", "5 5 5");
        yes("up", x.rule(0, 4, 1000000));
        none("fewest, with a secret that can't be guarded", x.fewest(0), 8);
        yes("tear", x.tear(0, 3, 2));
        none("fewest", x.fewest(0), 10);
        yes("hand", x.hand(0, 0, 0, false));
        for (int k = 0; k < 16; k++) due("give", x.give(0), k, 0);
        yes("hand", x.hand(0, 0, 0, true));
        none("give, with a secret that is not safe", x.give(0), 8);
        says("9 a BLOCK that may not lie so.");
        fresh(".", ".", ".");
        due("block", x.block(0, 0, 1), 1, 0);
        none("block", x.block(0, 1, 2), 9);
        none("block", x.block(0, 0, 1), 9);
        says("10 a SECRET is not SAFE, or can't be made so.");
        fresh("!5 5");
        none("give", x.give(0), 10);
        none("plan", x.plan(0), 10);
        none("fewest", x.fewest(0), 10);
        says("11 the ROW is not SOUND.");
        fresh("s5 .", "s5 m5", "s5 5", "5 5");
        yes("torn", x.tear(0, 2, 1));
        yes("missing", x.tear(0, 3, 0));
        for (int row = 0; row < 3; row++) {
            int at = row;
            soundCalls().forEach((name, call) -> none(name, call.at(0, at, 0), 11));
        }
        for (int row = 0; row < 4; row++) {
            none("sum", x.sum(0, row), 11);
            none("total", x.total(0, row, 0), 11);
            none("total", x.total(0, row, 1), 11);
        }
        says("0 else.");
        fresh("9 9", "9 s9");
        none("a status that is not 0", x.sum(0, 9), 2);
        due("what comes after it", x.sum(0, 0), 18, 0);
        soundCalls().forEach((name, call) -> due(name, Math.min(0, call.at(0, 1, 1)), 0, 0));
        changesNothing();
    }

    private static void changesNothing() {
        says("A call with another STATUS than 0 gives NONE, or false, and changes nothing but STATUS;");
        fresh("*5 !9 s4", "7 *3 8", "a5+6+7 z m6", "7 7 .", "7 7 7", "7 7 7");
        yes("torn", x.tear(0, 4, 2));
        yes("missing", x.tear(0, 5, 0));
        due("block", x.block(0, 2, 4), 1, 0);
        lay(1, "9 9", "9 9");
        due("give", x.give(1), 0, 0);
        due("round", x.round(1, 4), 0, 0);
        due("witness", x.witness(1, 1, 0, false), 9, 0);
        tableCalls().forEach((name, call) -> refused(name, () -> call.at(4), 1));
        placeCalls().forEach((name, call) -> {
            refused(name, () -> call.at(0, 6, 0), 2);
            refused(name, () -> call.at(0, 5, 1), 3);
            refused(name, () -> call.at(0, 4, 2), 4);
        });
        filledCalls().forEach((name, call) -> refused(name, () -> call.at(0, 3, 2), 5));
        soundCalls().forEach((name, call) -> refused(name, () -> call.at(0, 2, 2), 6));
        refused("open", () -> bit(x.open(0, 3, 3)), 1);
        refused("open", () -> bit(x.open(2, 3, 13)), 2);
        refused("rule", () -> bit(x.rule(0, 0, 101)), 7);
        refused("cell", () -> bit(x.cell(0, 0, 0, 1, 1000001)), 7);
        refused("giver", () -> bit(x.giver(0, 0, 0, 5)), 6);
        refused("giver", () -> bit(x.giver(0, 2, 0, 100001)), 7);
        refused("tear", () -> bit(x.tear(0, 0, -1)), 7);
        refused("tear", () -> bit(x.tear(0, 0, 4)), 4);
        refused("block", () -> x.block(0, 1, 2), 9);
        refused("hand", () -> bit(x.hand(0, 2, 1, true)), 6);
        refused("keep", () -> bit(x.keep(0, 2, 2, true)), 6);
        refused("give", () -> x.give(0), 10);
        refused("round", () -> x.round(0, 1001), 7);
        refused("sum", () -> x.sum(0, 2), 11);
        says("status() and those that are told so change not even that.");
        none("a status of 2", x.kind(1, 9, 0), 2);
        due("status", x.status(), 2, 2);
        due("seen", x.seen(0, 0), 9, 2);
        due("seen nowhere", x.seen(9, 9), -1, 2);
        due("cut", x.cut(true, 1), 1, 2);
        due("cut nowhere", x.cut(false, 9), -1, 2);
        due("rounded", x.rounded(0, 0), 8, 2);
        due("rounded nowhere", x.rounded(9, 0), -1, 2);
        due("gift", x.gift(0, 0, 0), 9, 2);
        due("no gift", x.gift(1, 0, 0), -1, 2);
        due("agree", x.agree(0, 0), -2, 2);
        due("no such two", x.agree(0, 1), -1, 2);
        says("The constants: `NONE = -1`: None.");
        due("NONE", CellKeeper.NONE, -1);
    }

    public static void main(String[] args) throws IOException {
        tables();
        rowsAndColumns();
        torn();
        kinds();
        sound();
        blocks();
        classes();
        rules();
        secrets();
        kept();
        reader();
        spans();
        witness();
        cut();
        plan();
        fewest();
        rounded();
        given();
        statuses();
        end("TermsTest", args, "## Terms", "## Promise 1:");
    }
}
