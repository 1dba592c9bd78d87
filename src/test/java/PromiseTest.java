/** Promises 1 to 37, one after the other: ordinary inputs, the edges that the document names, and wrong inputs. */
public final class PromiseTest {
    private static int wrong = 0;
    private static int looked = 0;
    private static int promise = 0;
    private static CellKeeper x = new CellKeeper();

    private static final int COUNT = 1;
    private static final int AMOUNT = 2;
    private static final int SHARE = 3;
    private static final int ZERO = 4;

    private static void due(String what, long got, long want) {
        looked++;
        if (got != want) {
            wrong++;
            System.out.println("promise " + promise + ": " + what + " answered " + got + ", due is " + want);
        }
    }

    /** An answer together with the status that the call left. */
    private static void due(String what, long got, long want, int status) {
        due(what, got, want);
        due(what + ", status", x.status(), status);
    }

    private static void yes(String what, boolean got) { due(what, got ? 1 : 0, 1, 0); }

    private static void no(String what, boolean got, int status) { due(what, got ? 1 : 0, 0, status); }

    private static void none(String what, int got, int status) { due(what, got, -1, status); }

    private static void counts(int table, int[][] numbers) {
        for (int i = 0; i < numbers.length; i++)
            for (int j = 0; j < numbers[i].length; j++) yes("cell", x.cell(table, i, j, COUNT, numbers[i][j]));
    }

    /** A new object with table 0 open and filled with counts, none of them a secret by the threshold. */
    private static void fresh(int[][] numbers) {
        x = new CellKeeper();
        yes("open", x.open(0, numbers.length, numbers[0].length));
        yes("rule", x.rule(0, 0, 0));
        counts(0, numbers);
    }

    private static void fresh(int rows, int columns) {
        x = new CellKeeper();
        yes("open", x.open(0, rows, columns));
    }

    private interface PlaceCall { int at(int table, int row, int column); }

    private static int bit(boolean b) { return b ? 1 : -1; }

    /** Statuses 1 to 4 of every call that names a place, in their order. */
    private static void placeStatuses(String what, PlaceCall call) {
        fresh(3, 3);
        counts(0, new int[][] {{5, 5, 5}, {5, 5, 5}, {5, 5, 5}});
        yes("tear", x.tear(0, 1, 2));
        yes("tear", x.tear(0, 2, 0));
        for (int t : new int[] {-1, 1, 5, 6, Integer.MIN_VALUE, Integer.MAX_VALUE}) none(what, call.at(t, 0, 0), 1);
        none(what, call.at(1, -1, 0), 1);
        for (int k : new int[] {-1, 3, 12, Integer.MIN_VALUE, Integer.MAX_VALUE}) {
            none(what, call.at(0, k, 0), 2);
            none(what, call.at(0, 0, k), 2);
            none(what, call.at(0, 2, k), 2);
        }
        none(what, call.at(0, 2, 0), 3);
        none(what, call.at(0, 2, 2), 3);
        none(what, call.at(0, 1, 2), 4);
    }

    private static void emptyStatus(String what, PlaceCall call) {
        placeStatuses(what, call);
        fresh(1, 2);
        none(what, call.at(0, 0, 0), 5);
    }

    private static void soundStatuses(String what, PlaceCall call, int kind) {
        emptyStatus(what, call);
        fresh(1, 3);
        yes("mark", x.cell(0, 0, 0, 0, 7));
        yes("cell", x.cell(0, 0, 1, kind, 0));
        none(what, call.at(0, 0, 0), 6);
        none(what, call.at(0, 0, 1), 11);
        none(what, call.at(0, 0, 2), 5);
        yes("cell", x.cell(0, 0, 2, COUNT, 9));
        none(what, call.at(0, 0, 1), 11);
        yes("cell", x.cell(0, 0, 0, COUNT, 9));
        due(what, Math.min(0, call.at(0, 0, 1)), 0, 0);
    }

    private static void tableStatus(String what, PlaceCall call) {
        x = new CellKeeper();
        for (int t : new int[] {-1, 0, 5, 6, Integer.MIN_VALUE, Integer.MAX_VALUE}) none(what, call.at(t, 0, 0), 1);
        yes("open", x.open(0, 1, 1));
        due(what, Math.min(0, call.at(0, 0, 0)), 0, 0);
        yes("close", x.close(0));
        none(what, call.at(0, 0, 0), 1);
    }

    // ---- 1 and 2

    private static void newObject() {
        promise = 1;
        x = new CellKeeper();
        due("status", x.status(), 0);
        for (int t = 0; t < 6; t++) {
            none("kind", x.kind(t, 0, 0), 1);
            x = new CellKeeper();
        }
        due("gift", x.gift(0, 0, 0), -1, 0);
        due("seen", x.seen(0, 0), -1, 0);
        due("rounded", x.rounded(0, 0), -1, 0);
        due("cut of rows", x.cut(true, 0), -1, 0);
        due("cut of columns", x.cut(false, 0), -1, 0);
        due("agree", x.agree(0, 0), -1, 0);
        due("NONE", CellKeeper.NONE, -1);
    }

    private static void status() {
        promise = 2;
        x = new CellKeeper();
        no("close", x.close(0), 1);
        due("status, again", x.status(), 1);
        due("gift", x.gift(0, 0, 0), -1, 1);
        due("seen", x.seen(0, 0), -1, 1);
        due("cut", x.cut(true, 0), -1, 1);
        due("rounded", x.rounded(0, 0), -1, 1);
        due("agree", x.agree(0, 0), -1, 1);
        yes("open", x.open(0, 1, 1));
    }

    // ---- 3 to 10

    private static void open() {
        promise = 3;
        x = new CellKeeper();
        no("open(-1)", x.open(-1, 1, 1), 1);
        no("open(6)", x.open(6, 1, 1), 1);
        no("open(6) with rows that can't be", x.open(6, 0, 0), 1);
        for (int k : new int[] {0, -1, 13, Integer.MAX_VALUE, Integer.MIN_VALUE}) {
            no("open with rows " + k, x.open(0, k, 1), 2);
            no("open with columns " + k, x.open(0, 1, k), 2);
        }
        yes("open(0, 12, 12)", x.open(0, 12, 12));
        no("open again", x.open(0, 12, 12), 1);
        no("open again, wrong", x.open(0, 0, 0), 1);
        yes("open(5, 1, 1)", x.open(5, 1, 1));
        due("kind", x.kind(0, 11, 11), 0, 0);
        due("sound", x.sound(0, 0), 0, 0);
        yes("open(4, 2, 2)", x.open(4, 2, 2));
        counts(4, new int[][] {{3, 3}, {4, 4}});
        due("threshold at first", x.secret(4, 0, 0) * 10 + x.secret(4, 1, 0), 10);
        yes("keep", x.keep(4, 1, 1, true));
        due("block", x.block(4, 0, 0), 1, 0);
        yes("rule", x.rule(4, 0, 50));
        yes("tear", x.tear(4, 1, 1));
        yes("hand", x.hand(4, 0, 0, true));
        yes("close", x.close(4));
        yes("open once more", x.open(4, 2, 2));
        for (int k = 0; k < 4; k++) due("kind", x.kind(4, k / 2, k % 2), 0, 0);
        counts(4, new int[][] {{4, 4}, {4, 4}});
        due("no block", x.total(4, 0, 0), 8, 0);
        due("rules, hand as at first", x.secret(4, 0, 0), 0, 0);
        due("none told to be kept", x.kept(4, 1, 1), 0, 0);
        due("block", x.block(4, 0, 0), 1, 0);
    }

    private static void close() {
        promise = 4;
        tableStatus("close", (t, i, j) -> bit(x.close(t)) == 1 && t != 0 ? 0 : t == 0 && x.status() == 0 ? reopen() : -1);
        fresh(new int[][] {{5, 5}, {5, 5}});
        due("give", x.give(0), 0, 0);
        due("witness", x.witness(0, 0, 0, true), 5, 0);
        due("round", x.round(0, 4), 0, 0);
        yes("close", x.close(0));
        due("gift stays", x.gift(0, 1, 1), 5);
        due("witness stays", x.seen(1, 1), 5);
        due("cut stays", x.cut(false, 0), 1);
        due("rounded stays", x.rounded(0, 1), 4);
        no("close", x.close(0), 1);
    }

    private static int reopen() { return x.open(0, 1, 1) ? 0 : -1; }

    private static void rule() {
        promise = 5;
        tableStatus("rule", (t, i, j) -> bit(x.rule(t, 0, 5)));
        fresh(1, 1);
        int[] most = {100, 6, 100, 1000000, 1000000, 1};
        for (int k = 0; k < 6; k++) {
            yes("rule " + k, x.rule(0, k, 0));
            yes("rule " + k, x.rule(0, k, most[k]));
            no("rule " + k, x.rule(0, k, most[k] + 1), 7);
            no("rule " + k, x.rule(0, k, -1), 7);
            no("rule " + k, x.rule(0, k, Integer.MIN_VALUE), 7);
        }
        no("rule -1", x.rule(0, -1, 0), 7);
        no("rule 6", x.rule(0, 6, 0), 7);
        no("rule of no table", x.rule(3, 6, 0), 1);
        yes("cell", x.cell(0, 0, 0, COUNT, 100));
        due("threshold 100", x.secret(0, 0, 0), 1, 0);
        no("threshold 101", x.rule(0, 0, 101), 7);
        due("threshold 100 still", x.secret(0, 0, 0), 1, 0);
        yes("cell", x.cell(0, 0, 0, COUNT, 101));
        due("above it", x.secret(0, 0, 0), 0, 0);
        yes("threshold 0", x.rule(0, 0, 0));
        yes("cell", x.cell(0, 0, 0, COUNT, 1));
        due("none", x.secret(0, 0, 0), 0, 0);
    }

    private static void cell() {
        promise = 6;
        placeStatuses("cell", (t, i, j) -> bit(x.cell(t, i, j, COUNT, 5)));
        placeStatuses("cell, wrong", (t, i, j) -> bit(x.cell(t, i, j, 9, -5)));
        fresh(1, 2);
        int[][] fine = {{0, 1}, {0, 99}, {1, 0}, {1, 1000000}, {2, 0}, {3, 0}, {3, 1000000}, {4, 0}};
        for (int[] f : fine) {
            yes("cell of kind " + f[0], x.cell(0, 0, 0, f[0], f[1]));
            due("its kind", x.kind(0, 0, 0), f[0] == 0 ? 5 : f[0], 0);
            due("its number", x.number(0, 0, 0), f[1], 0);
        }
        int[][] bad = {{0, 0}, {0, 100}, {0, -1}, {1, -1}, {1, 1000001}, {2, 1}, {2, -1}, {3, -1}, {3, 1000001}, {4, 1},
            {4, -1}, {5, 5}, {5, 0}, {-1, 0}, {Integer.MAX_VALUE, 0}, {Integer.MIN_VALUE, 0}};
        yes("cell", x.cell(0, 0, 0, COUNT, 77));
        for (int[] b : bad) no("cell of kind " + b[0] + " and number " + b[1], x.cell(0, 0, 0, b[0], b[1]), 7);
        due("is as it was", x.number(0, 0, 0), 77, 0);
        yes("cell", x.cell(0, 0, 1, COUNT, 20));
        yes("hand", x.hand(0, 0, 0, true));
        yes("keep", x.keep(0, 0, 0, true));
        yes("the same once more", x.cell(0, 0, 0, COUNT, 77));
        due("hand goes with its cell", x.secret(0, 0, 0), 0, 0);
        due("keep goes with its cell", x.kept(0, 0, 0), 0, 0);
        yes("amount", x.cell(0, 0, 0, AMOUNT, 0));
        yes("giver", x.giver(0, 0, 0, 8));
        yes("amount", x.cell(0, 0, 0, AMOUNT, 0));
        due("givers go with their cell", x.givers(0, 0, 0), 0, 0);
        due("no parts", x.number(0, 0, 0), 0, 0);
    }

    private static void giver() {
        promise = 7;
        emptyStatus("giver", (t, i, j) -> bit(x.giver(t, i, j, 5)));
        emptyStatus("giver, wrong", (t, i, j) -> bit(x.giver(t, i, j, 0)));
        fresh(1, 5);
        yes("mark", x.cell(0, 0, 0, 0, 3));
        for (int k = 1; k < 5; k++) yes("cell", x.cell(0, 0, k, k, 0));
        for (int k : new int[] {0, 1, 3, 4}) {
            no("giver", x.giver(0, 0, k, 5), 6);
            no("giver, wrong", x.giver(0, 0, k, 0), 6);
        }
        no("part 0", x.giver(0, 0, 2, 0), 7);
        no("part -1", x.giver(0, 0, 2, -1), 7);
        no("part 100001", x.giver(0, 0, 2, 100001), 7);
        for (int k = 0; k < 6; k++) yes("giver", x.giver(0, 0, 2, 100000));
        due("number", x.number(0, 0, 2), 600000, 0);
        no("a seventh, wrong", x.giver(0, 0, 2, 0), 7);
        no("a seventh", x.giver(0, 0, 2, 1), 8);
        due("givers", x.givers(0, 0, 2), 6, 0);
        due("number", x.number(0, 0, 2), 600000, 0);
        fresh(1, 1);
        yes("amount", x.cell(0, 0, 0, AMOUNT, 0));
        yes("hand", x.hand(0, 0, 0, true));
        yes("giver", x.giver(0, 0, 0, 1));
        due("what a hand told stays with an amount", x.secret(0, 0, 0) & 8, 8, 0);
    }

    private static void clear() {
        promise = 8;
        emptyStatus("clear", (t, i, j) -> bit(x.clear(t, i, j)));
        fresh(new int[][] {{5, 5}});
        yes("hand", x.hand(0, 0, 0, true));
        yes("keep", x.keep(0, 0, 0, true));
        yes("clear", x.clear(0, 0, 0));
        due("kind", x.kind(0, 0, 0), 0, 0);
        no("clear", x.clear(0, 0, 0), 5);
        due("sound", x.sound(0, 0), 0, 0);
        yes("cell", x.cell(0, 0, 0, COUNT, 5));
        due("what was told is gone", x.kept(0, 0, 0), 0, 0);
        yes("mark", x.cell(0, 0, 0, 0, 5));
        yes("clear", x.clear(0, 0, 0));
        due("kind", x.kind(0, 0, 0), 0, 0);
    }

    private static void tear() {
        promise = 9;
        fresh(new int[][] {{5, 6, 7}, {5, 6, 7}});
        no("tear", x.tear(1, 0, 1), 1);
        no("tear", x.tear(0, 2, 1), 2);
        no("tear", x.tear(0, -1, -1), 2);
        no("tear -1", x.tear(0, 0, -1), 7);
        no("tear", x.tear(0, 0, Integer.MIN_VALUE), 7);
        no("tear 4", x.tear(0, 0, 4), 4);
        yes("tear 3", x.tear(0, 0, 3));
        due("as it was", x.sum(0, 0), 18, 0);
        yes("tear 2", x.tear(0, 0, 2));
        yes("tear 2", x.tear(0, 0, 2));
        no("tear 3", x.tear(0, 0, 3), 4);
        due("first place", x.number(0, 0, 0), 5, 0);
        due("second place", x.number(0, 0, 1), 6, 0);
        none("third place", x.kind(0, 0, 2), 4);
        no("cell in it", x.cell(0, 0, 2, COUNT, 1), 4);
        due("sound", x.sound(0, 0), 0, 0);
        due("the other row", x.sound(0, 1), 1, 0);
        yes("tear 0", x.tear(0, 0, 0));
        none("first place", x.kind(0, 0, 0), 3);
        no("tear 0", x.tear(0, 0, 0), 3);
        no("tear 1", x.tear(0, 0, 1), 3);
        no("tear -1", x.tear(0, 0, -1), 3);
        no("cell in it", x.cell(0, 0, 0, COUNT, 1), 3);
        fresh(12, 12);
        for (int k = 0; k < 144; k++) yes("cell", x.cell(0, k / 12, k % 12, COUNT, 500));
        yes("tear", x.tear(0, 4, 6));
        yes("tear", x.tear(0, 11, 0));
        for (int i = 0; i < 12; i++) due("sound", x.sound(0, i), i == 4 || i == 11 ? 0 : 1, 0);
    }

    private static void block() {
        promise = 10;
        tableStatus("block", (t, i, j) -> x.block(t, 0, 0));
        fresh(12, 1);
        none("block", x.block(0, -1, 0), 2);
        none("block", x.block(0, 0, 12), 2);
        none("block", x.block(0, 5, 4), 2);
        none("block", x.block(0, 12, 12), 2);
        due("block", x.block(0, 2, 5), 1, 0);
        none("the same", x.block(0, 2, 5), 9);
        none("across its end", x.block(0, 5, 6), 9);
        none("across its beginning", x.block(0, 1, 2), 9);
        due("within", x.block(0, 2, 4), 2, 0);
        none("across what is within", x.block(0, 3, 5), 9);
        due("around", x.block(0, 2, 6), 3, 0);
        due("beside", x.block(0, 7, 8), 4, 0);
        due("all", x.block(0, 0, 11), 5, 0);
        for (int k = 2; k < 8; k++) due("one row", x.block(0, k, k), k + 4, 0);
        due("the twelfth", x.block(0, 8, 8), 12, 0);
        none("a thirteenth", x.block(0, 9, 9), 8);
        none("a thirteenth that may not lie so", x.block(0, 2, 5), 8);
        none("a thirteenth of no rows", x.block(0, 9, 12), 2);
        fresh(new int[][] {{1, 10}, {2, 20}, {4, 40}, {8, 80}});
        yes("tear", x.tear(0, 3, 0));
        due("of a missing row too", x.block(0, 2, 3), 1, 0);
        due("total", x.total(0, 2, 0), 4, 0);
        due("total", x.total(0, 0, 0), 3, 0);
    }

    // ---- 11 to 19

    private static void kindAndNumber() {
        promise = 11;
        placeStatuses("kind", (t, i, j) -> x.kind(t, i, j));
        promise = 12;
        emptyStatus("number", (t, i, j) -> x.number(t, i, j));
        fresh(1, 6);
        int[] kinds = {0, 1, 2, 3, 4};
        int[] numbers = {99, 12, 0, 13, 0};
        for (int k = 0; k < 5; k++) yes("cell", x.cell(0, 0, k, kinds[k], numbers[k]));
        yes("giver", x.giver(0, 0, 2, 40));
        yes("giver", x.giver(0, 0, 2, 2));
        numbers[2] = 42;
        for (int k = 0; k < 5; k++) {
            promise = 11;
            due("kind", x.kind(0, 0, k), k == 0 ? 5 : k, 0);
            promise = 12;
            due("number", x.number(0, 0, k), numbers[k], 0);
        }
        promise = 11;
        due("kind of nothing", x.kind(0, 0, 5), 0, 0);
        promise = 12;
        none("number of nothing", x.number(0, 0, 5), 5);
    }

    private static void giversAndPart() {
        promise = 13;
        emptyStatus("givers", (t, i, j) -> x.givers(t, i, j));
        promise = 14;
        emptyStatus("part", (t, i, j) -> x.part(t, i, j, 0));
        emptyStatus("part, wrong", (t, i, j) -> x.part(t, i, j, -1));
        fresh(1, 5);
        yes("mark", x.cell(0, 0, 0, 0, 3));
        for (int k = 1; k < 5; k++) yes("cell", x.cell(0, 0, k, k, 0));
        for (int k : new int[] {0, 1, 3, 4}) {
            promise = 13;
            none("givers", x.givers(0, 0, k), 6);
            promise = 14;
            none("part", x.part(0, 0, k, 0), 6);
        }
        due("givers", x.givers(0, 0, 2), 0, 0);
        none("part 0 of none", x.part(0, 0, 2, 0), 7);
        for (int k = 0; k < 6; k++) yes("giver", x.giver(0, 0, 2, 50 - 7 * k));
        for (int k = 0; k < 6; k++) due("part", x.part(0, 0, 2, k), 50 - 7 * k, 0);
        none("part 6", x.part(0, 0, 2, 6), 7);
        none("part -1", x.part(0, 0, 2, -1), 7);
        none("part", x.part(0, 0, 2, Integer.MAX_VALUE), 7);
        promise = 13;
        due("givers", x.givers(0, 0, 2), 6, 0);
    }

    private static void handAndKeep() {
        promise = 15;
        emptyStatus("hand", (t, i, j) -> bit(x.hand(t, i, j, true)));
        promise = 16;
        emptyStatus("keep", (t, i, j) -> bit(x.keep(t, i, j, false)));
        fresh(2, 5);
        for (int k = 0; k < 5; k++) yes("cell", x.cell(0, 0, k, k, k == 0 ? 9 : 0));
        for (int k : new int[] {0, 4}) {
            promise = 15;
            no("hand", x.hand(0, 0, k, true), 6);
            no("hand", x.hand(0, 0, k, false), 6);
            promise = 16;
            no("keep", x.keep(0, 0, k, true), 6);
            no("keep", x.keep(0, 0, k, false), 6);
        }
        promise = 15;
        for (int k = 1; k < 4; k++) yes("hand, in a row that is not sound", x.hand(0, 0, k, true));
        promise = 16;
        for (int k = 1; k < 4; k++) yes("keep", x.keep(0, 0, k, k < 3));
        yes("cell", x.cell(0, 0, 0, COUNT, 4));
        promise = 15;
        for (int k = 1; k < 4; k++) due("secret", x.secret(0, 0, k), 8, 0);
        for (int k = 1; k < 4; k++) yes("no more", x.hand(0, 0, k, false));
        for (int k = 1; k < 4; k++) due("secret", x.secret(0, 0, k), 0, 0);
        promise = 16;
        for (int k = 1; k < 4; k++) due("kept", x.kept(0, 0, k), k < 3 ? 1 : 0, 0);
        yes("no more", x.keep(0, 0, 1, false));
        due("kept", x.kept(0, 0, 1), 0, 0);
        yes("hand", x.hand(0, 0, 2, true));
        yes("keep no more", x.keep(0, 0, 2, false));
        due("a secret is kept all the same", x.kept(0, 0, 2), 1, 0);
        yes("hand no more", x.hand(0, 0, 2, false));
        due("and then is not", x.kept(0, 0, 2), 0, 0);
    }

    private static void soundSumTotal() {
        promise = 17;
        fresh(3, 2);
        none("sound", x.sound(1, 0), 1);
        none("sound", x.sound(0, -1), 2);
        none("sound", x.sound(0, 3), 2);
        counts(0, new int[][] {{5, 6}, {1000000, 1000000}, {7, 8}});
        for (int k = 0; k < 3; k++) due("sound", x.sound(0, k), 1, 0);
        yes("mark", x.cell(0, 0, 1, 0, 6));
        due("with a mark", x.sound(0, 0), 0, 0);
        yes("tear", x.tear(0, 2, 1));
        due("torn", x.sound(0, 2), 0, 0);
        promise = 18;
        none("sum", x.sum(1, 0), 1);
        none("sum", x.sum(0, 3), 2);
        none("sum", x.sum(0, 0), 11);
        none("sum", x.sum(0, 2), 11);
        due("sum", x.sum(0, 1), 2000000, 0);
        yes("tear", x.tear(0, 2, 0));
        none("sum of a missing row", x.sum(0, 2), 11);
        promise = 17;
        due("missing", x.sound(0, 2), 0, 0);
        promise = 19;
        none("total", x.total(1, 0, 0), 1);
        none("total", x.total(0, -1, 0), 2);
        none("total", x.total(0, 1, 2), 2);
        none("total", x.total(0, 1, -1), 2);
        none("total", x.total(0, 0, 2), 2);
        none("total", x.total(0, 0, 0), 11);
        none("total of a missing row", x.total(0, 2, 1), 11);
        due("total", x.total(0, 1, 1), 1000000, 0);
        fresh(new int[][] {{1, 0}, {2, 0}, {4, 0}, {8, 0}, {16, 0}, {32, 0}});
        due("block", x.block(0, 1, 4), 1, 0);
        due("block", x.block(0, 2, 3), 2, 0);
        int[] totals = {33, 18, 12, 12, 18, 33};
        for (int k = 0; k < 6; k++) due("total", x.total(0, k, 0), totals[k], 0);
        yes("clear", x.clear(0, 4, 1));
        due("without what is not sound", x.total(0, 1, 0), 2, 0);
        none("not sound", x.total(0, 4, 0), 11);
    }

    // ---- 20 to 26

    private static void secret() {
        promise = 20;
        soundStatuses("secret", (t, i, j) -> x.secret(t, i, j), COUNT);
        fresh(1, 6);
        int[] numbers = {0, 1, 3, 4};
        for (int k = 0; k < 4; k++) yes("cell", x.cell(0, 0, k, COUNT, numbers[k]));
        yes("cell", x.cell(0, 0, 4, SHARE, 2));
        yes("cell", x.cell(0, 0, 5, ZERO, 0));
        int[] reasons = {0, 1, 1, 0, 0, 0};
        for (int k = 0; k < 6; k++) due("secret", x.secret(0, 0, k), reasons[k], 0);
        for (int k = 0; k < 5; k++) yes("hand", x.hand(0, 0, k, true));
        for (int k = 0; k < 5; k++) due("secret", x.secret(0, 0, k), reasons[k] + 8, 0);
        fresh(1, 1);
        yes("amount", x.cell(0, 0, 0, AMOUNT, 0));
        yes("rule", x.rule(0, 1, 6));
        due("an amount of 0", x.secret(0, 0, 0), 0, 0);
        yes("giver", x.giver(0, 0, 0, 60));
        due("one giver", x.secret(0, 0, 0), 6, 0);
        yes("rule", x.rule(0, 2, 0));
        due("percent 0", x.secret(0, 0, 0), 2, 0);
        yes("rule", x.rule(0, 1, 1));
        due("one wanted", x.secret(0, 0, 0), 0, 0);
        yes("giver", x.giver(0, 0, 0, 10));
        yes("giver", x.giver(0, 0, 0, 30));
        yes("rule", x.rule(0, 2, 10));
        due("10 of 100 left, 10 percent", x.secret(0, 0, 0), 0, 0);
        yes("rule", x.rule(0, 2, 11));
        due("10 of 100 left, 11 percent", x.secret(0, 0, 0), 4, 0);
        yes("giver", x.giver(0, 0, 0, 60));
        due("40 of 160 left", x.secret(0, 0, 0), 0, 0);
        yes("rule", x.rule(0, 2, 26));
        due("26 percent", x.secret(0, 0, 0), 4, 0);
        yes("rule", x.rule(0, 2, 25));
        due("25 percent", x.secret(0, 0, 0), 0, 0);
        yes("amount", x.cell(0, 0, 0, AMOUNT, 0));
        for (int k = 0; k < 6; k++) yes("giver", x.giver(0, 0, 0, 100000));
        yes("rule", x.rule(0, 2, 100));
        due("great numbers", x.secret(0, 0, 0), 4, 0);
        yes("rule", x.rule(0, 2, 66));
        due("great numbers", x.secret(0, 0, 0), 0, 0);
    }

    private static void kept() {
        promise = 21;
        soundStatuses("kept", (t, i, j) -> x.kept(t, i, j), COUNT);
        fresh(new int[][] {{5, 2}, {7, 8}});
        due("kept", x.kept(0, 0, 1), 0, 0);
        yes("threshold", x.rule(0, 0, 2));
        due("kept", x.kept(0, 0, 1), 1, 0);
        yes("keep", x.keep(0, 1, 0, true));
        due("kept", x.kept(0, 1, 0), 1, 0);
        due("not kept", x.kept(0, 1, 1), 0, 0);
        yes("zero", x.cell(0, 1, 1, ZERO, 0));
        due("a zero", x.kept(0, 1, 1), 0, 0);
    }

    private static void thousandths() {
        promise = 22;
        soundStatuses("thousandths", (t, i, j) -> x.thousandths(t, i, j), SHARE);
        fresh(2, 4);
        int[] kinds = {COUNT, AMOUNT, SHARE, ZERO};
        for (int k = 0; k < 4; k++) yes("cell", x.cell(0, 0, k, kinds[k], 0));
        none("count", x.thousandths(0, 0, 0), 6);
        none("amount", x.thousandths(0, 0, 1), 6);
        none("zero", x.thousandths(0, 0, 3), 6);
        due("of nothing", x.thousandths(0, 0, 2), 0, 0);
        yes("cell", x.cell(0, 0, 2, SHARE, 7));
        due("all", x.thousandths(0, 0, 2), 1000, 0);
        yes("cell", x.cell(0, 0, 0, COUNT, 14));
        due("a third", x.thousandths(0, 0, 2), 333, 0);
        yes("clear", x.clear(0, 0, 3));
        none("not sound", x.thousandths(0, 0, 2), 11);
        none("another kind comes first", x.thousandths(0, 0, 0), 6);
        for (int k = 0; k < 4; k++) yes("cell", x.cell(0, 1, k, SHARE, k == 0 ? 1000000 : 999999));
        due("great numbers", x.thousandths(0, 1, 0), 250, 0);
        due("great numbers", x.thousandths(0, 1, 3), 249, 0);
    }

    private static void spans() {
        promise = 23;
        soundStatuses("least", (t, i, j) -> x.least(t, i, j), COUNT);
        promise = 24;
        soundStatuses("greatest", (t, i, j) -> x.greatest(t, i, j), COUNT);
        fresh(new int[][] {{5, 9, 4}, {7, 3, 8}, {6, 6, 6}});
        promise = 23;
        due("not kept", x.least(0, 0, 0) * 100 + x.greatest(0, 0, 0), 505, 0);
        for (int k = 0; k < 4; k++) yes("keep", x.keep(0, k / 2, k % 2, true));
        int[][] least = {{2, 2}, {0, 0}};
        int[][] greatest = {{12, 12}, {10, 10}};
        for (int i = 0; i < 2; i++)
            for (int j = 0; j < 2; j++) {
                promise = 23;
                due("least", x.least(0, i, j), least[i][j], 0);
                promise = 24;
                due("greatest", x.greatest(0, i, j), greatest[i][j], 0);
            }
        // Without the ring of four there is nothing to move.
        yes("keep no more", x.keep(0, 1, 1, false));
        due("greatest", x.greatest(0, 0, 0), 5, 0);
        promise = 23;
        due("least", x.least(0, 0, 0), 5, 0);
        yes("keep", x.keep(0, 1, 1, true));
        due("block", x.block(0, 1, 1), 1, 0);
        due("another class", x.least(0, 0, 0), 5, 0);
        promise = 24;
        due("another class", x.greatest(0, 0, 0), 5, 0);
        longRing();
        shares();
        whole();
    }

    /** A ring through three rows and columns: (0,0) goes up only by way of all six cells. */
    private static void longRing() {
        fresh(new int[][] {{10, 4, 50}, {50, 10, 3}, {2, 50, 10}});
        int[][] ring = {{0, 0}, {0, 1}, {1, 1}, {1, 2}, {2, 2}, {2, 0}};
        for (int[] p : ring) yes("keep", x.keep(0, p[0], p[1], true));
        promise = 24;
        due("greatest", x.greatest(0, 0, 0), 12, 0);
        promise = 23;
        due("least", x.least(0, 0, 0), 0, 0);
        due("least", x.least(0, 0, 1), 2, 0);
        promise = 24;
        due("greatest", x.greatest(0, 0, 1), 14, 0);
        yes("zero in the way", x.cell(0, 2, 2, ZERO, 0));
        due("greatest", x.greatest(0, 0, 0), 10, 0);
    }

    private static void shares() {
        fresh(2, 2);
        yes("rule", x.rule(0, 0, 0));
        yes("cell", x.cell(0, 0, 0, SHARE, 5005));
        yes("cell", x.cell(0, 0, 1, COUNT, 4995));
        yes("cell", x.cell(0, 1, 0, COUNT, 8000));
        yes("cell", x.cell(0, 1, 1, COUNT, 3));
        for (int k = 0; k < 4; k++) yes("keep", x.keep(0, k / 2, k % 2, true));
        promise = 23;
        due("a share's thousandths bound it", x.least(0, 0, 0), 5002, 0);
        yes("cell", x.cell(0, 1, 1, COUNT, 900));
        yes("keep", x.keep(0, 1, 1, true));
        due("a share's thousandths bound it", x.least(0, 0, 0), 5000, 0);
        promise = 24;
        due("a share's thousandths bound it", x.greatest(0, 0, 0), 5009, 0);
        due("and what moves with it", x.greatest(0, 1, 1), 904, 0);
        promise = 23;
        due("and what moves with it", x.least(0, 1, 1), 895, 0);
    }

    private static void whole() {
        promise = 24;
        fresh(new int[][] {{1000000, 1000000, 0}, {1000000, 1000000, 0}, {0, 0, 1000000}});
        for (int k = 0; k < 9; k++) yes("keep", x.keep(0, k / 3, k % 3, true));
        due("greatest", x.greatest(0, 0, 0), 2000000, 0);
        due("greatest", x.greatest(0, 2, 2), 1000000, 0);
        due("greatest", x.greatest(0, 0, 2), 1000000, 0);
        promise = 23;
        due("least", x.least(0, 2, 2), 0, 0);
    }

    private static void safe() {
        promise = 25;
        soundStatuses("safe", (t, i, j) -> x.safe(t, i, j), COUNT);
        fresh(new int[][] {{5, 9}, {7, 3}});
        due("not kept", x.safe(0, 0, 0), 0, 0);
        for (int k = 0; k < 4; k++) yes("keep", x.keep(0, k / 2, k % 2, true));
        // The span of (0, 0) is 2 to 12.
        int[][] cases = {{3, 7, 1}, {4, 7, 0}, {3, 8, 0}, {0, 0, 1}, {1000000, 0, 0}, {0, 1000000, 0}};
        for (int[] c : cases) {
            yes("down", x.rule(0, 3, c[0]));
            yes("up", x.rule(0, 4, c[1]));
            due("safe with " + c[0] + " down, " + c[1] + " up", x.safe(0, 0, 0), c[2], 0);
        }
        yes("down", x.rule(0, 3, 1000000));
        yes("up", x.rule(0, 4, 2));
        due("a least of 0 is low enough", x.safe(0, 1, 1), 1, 0);
        yes("zero", x.cell(0, 1, 1, ZERO, 0));
        due("a zero", x.safe(0, 1, 1), 0, 0);
        yes("up", x.rule(0, 4, 0));
        due("a zero with nothing wanted above", x.safe(0, 1, 1), 1, 0);
        due("down is still wanted", x.safe(0, 0, 0), 0, 0);
        yes("down", x.rule(0, 3, 0));
        due("nothing wanted", x.safe(0, 0, 0), 1, 0);
    }

    private static void unsafe() {
        promise = 26;
        tableStatus("unsafe", (t, i, j) -> x.unsafe(t));
        fresh(new int[][] {{2, 9, 1}, {7, 3, 8}, {1, 9, 9}});
        due("no secrets", x.unsafe(0), 0, 0);
        yes("threshold", x.rule(0, 0, 2));
        due("three", x.unsafe(0), 3, 0);
        yes("keep", x.keep(0, 1, 0, true));
        yes("keep", x.keep(0, 1, 2, true));
        due("the ring guards those in it", x.unsafe(0), 1, 0);
        yes("clear", x.clear(0, 1, 2));
        due("without the row", x.unsafe(0), 3, 0);
        yes("tear", x.tear(0, 0, 2));
        due("what is not sound is no secret", x.unsafe(0), 1, 0);
    }

    // ---- 27 to 29

    private static void witness() {
        promise = 27;
        soundStatuses("witness", (t, i, j) -> x.witness(t, i, j, true), COUNT);
        soundStatuses("witness", (t, i, j) -> x.witness(t, i, j, false), COUNT);
        fresh(new int[][] {{5, 9, 4}, {7, 3, 8}, {6, 6, 6}, {9, 9, 9}, {4, 8, 7}, {5, 5, 5}});
        due("block", x.block(0, 3, 5), 1, 0);
        yes("not sound", x.cell(0, 5, 0, 0, 9));
        for (int i : new int[] {0, 1, 2, 3, 4}) for (int j = 0; j < 2; j++) yes("keep", x.keep(0, i, j, true));
        due("witness", x.witness(0, 1, 0, true), 10, 0);
        promise = 28;
        // Least first: row 0 goes to its least, then what is left.
        int[][] want = {{0, 14, 4}, {10, 0, 8}, {8, 4, 6}, {1, 17, 9}, {12, 0, 7}, {-1, -1, -1}};
        seenIs(want);
        promise = 29;
        // From column 0 (2, 0) alone can be less; then (2, 1) more, and (0, 1) less.
        cutIs("101000", "110");
        promise = 27;
        none("wrong", x.witness(0, 5, 0, true), 6);
        none("wrong", x.witness(0, 5, 1, true), 11);
        none("wrong", x.witness(3, 0, 0, false), 1);
        promise = 28;
        seenIs(want);
        yes("close", x.close(0));
        seenIs(want);
        due("seen has no status", x.seen(99, 99), -1, 0);
        none("wrong", x.kind(0, 0, 0), 1);
        due("seen has no status", x.seen(0, 0), 0, 1);
        due("nowhere", x.seen(-1, 0), -1);
        due("nowhere", x.seen(0, -1), -1);
        due("nowhere", x.seen(6, 0), -1);
        due("nowhere", x.seen(0, 3), -1);
        due("nowhere", x.seen(Integer.MAX_VALUE, Integer.MIN_VALUE), -1);
        promise = 29;
        for (int k : new int[] {-1, 6, 12, 24, Integer.MAX_VALUE, Integer.MIN_VALUE}) due("no row", x.cut(true, k), -1, 1);
        for (int k : new int[] {-1, 3, 12, Integer.MAX_VALUE, Integer.MIN_VALUE}) due("no column", x.cut(false, k), -1, 1);
    }

    private static void seenIs(int[][] want) {
        for (int i = 0; i < want.length; i++)
            for (int j = 0; j < want[i].length; j++) due("seen " + i + ", " + j, x.seen(i, j), want[i][j]);
    }

    private static void cutIs(String rows, String columns) {
        for (int k = 0; k < rows.length(); k++) due("row " + k, x.cut(true, k), rows.charAt(k) - '0');
        for (int k = 0; k < columns.length(); k++) due("column " + k, x.cut(false, k), columns.charAt(k) - '0');
    }

    private static void cut() {
        promise = 29;
        fresh(new int[][] {{5, 9, 4}, {7, 3, 8}, {6, 6, 6}});
        for (int k = 0; k < 4; k++) yes("keep", x.keep(0, k / 2, k % 2, true));
        due("greatest", x.witness(0, 0, 0, true), 12, 0);
        cutIs("000", "100");
        due("least", x.witness(0, 0, 0, false), 2, 0);
        cutIs("100", "010");
        due("not kept, greatest", x.witness(0, 2, 1, true), 6, 0);
        cutIs("000", "010");
        seenIs(new int[][] {{2, 12, 4}, {10, 0, 8}, {6, 6, 6}});
        due("not kept, least", x.witness(0, 2, 1, false), 6, 0);
        cutIs("001", "000");
        // Of a share it is its own bound that ends it: the steps then lead round to its row.
        yes("share", x.cell(0, 0, 0, SHARE, 5));
        yes("keep", x.keep(0, 0, 0, true));
        due("greatest of a share", x.witness(0, 0, 0, true), 5, 0);
        cutIs("110", "110");
        due("least of a share", x.witness(0, 0, 0, false), 5, 0);
        cutIs("110", "110");
        due("greatest beside a share", x.witness(0, 1, 1, true), 3, 0);
        cutIs("100", "010");
        emptyShare();
    }

    /** A share of a row without anything has 0 thousandths whatever it is, and so no bound of its own. */
    private static void emptyShare() {
        fresh(2, 2);
        yes("share", x.cell(0, 0, 0, SHARE, 0));
        yes("share", x.cell(0, 0, 1, SHARE, 0));
        yes("count", x.cell(0, 1, 0, COUNT, 5));
        yes("count", x.cell(0, 1, 1, COUNT, 5));
        yes("keep", x.keep(0, 0, 0, true));
        yes("keep", x.keep(0, 0, 1, true));
        due("least", x.witness(0, 0, 0, false), 0, 0);
        cutIs("10", "01");
        due("greatest", x.witness(0, 0, 0, true), 0, 0);
        cutIs("00", "10");
    }

    // ---- 30 to 34

    private static void plan() {
        promise = 30;
        tableStatus("plan", (t, i, j) -> x.plan(t));
        fresh(new int[][] {{2, 9, 8}, {7, 6, 8}, {6, 5, 7}});
        due("nothing to guard", x.plan(0), 0, 0);
        yes("threshold", x.rule(0, 0, 2));
        due("plan", x.plan(0), 3, 0);
        // All cost the same, so the first row and the first column.
        keptIs("110110000");
        due("again", x.plan(0), 0, 0);
        fresh(new int[][] {{2, 9, 8}, {7, 6, 8}, {6, 5, 7}});
        yes("threshold", x.rule(0, 0, 2));
        yes("costs", x.rule(0, 5, 1));
        due("plan", x.plan(0), 3, 0);
        // 9 + 6 + 5 is 20, 8 + 6 + 7 is 21, 9 + 7 + 6 is 22.
        keptIs("110000110");
        due("cost", x.cost(0), 23, 0);
        fresh(new int[][] {{2, 9, 8}, {7, 6, 8}, {6, 5, 7}});
        yes("threshold", x.rule(0, 0, 2));
        yes("keep", x.keep(0, 2, 2, true));
        due("what is kept costs nothing", x.plan(0), 2, 0);
        keptIs("101000101");
        planFails();
        planTellsAllThree();
    }

    private static void planFails() {
        fresh(new int[][] {{2, 9}, {7, 6}});
        yes("threshold", x.rule(0, 0, 2));
        yes("up", x.rule(0, 4, 8));
        none("plan", x.plan(0), 10);
        keptIs("1000");
        yes("up", x.rule(0, 4, 7));
        due("plan", x.plan(0), 3, 0);
        fresh(new int[][] {{2, 9}, {7, 6}});
        yes("threshold", x.rule(0, 0, 2));
        yes("zero", x.cell(0, 1, 1, ZERO, 0));
        none("a zero is never kept", x.plan(0), 10);
        yes("cell", x.cell(0, 1, 1, COUNT, 6));
        due("block", x.block(0, 1, 1), 1, 0);
        none("another class", x.plan(0), 10);
        keptIs("1000");
        fresh(new int[][] {{2, 9}, {7, 6}});
        yes("threshold", x.rule(0, 0, 2));
        yes("not sound", x.clear(0, 1, 1));
        none("a row that is not sound", x.plan(0), 10);
    }

    private static void planTellsAllThree() {
        fresh(new int[][] {{2, 9}, {7, 1}});
        yes("threshold", x.rule(0, 0, 2));
        due("plan", x.plan(0), 2, 0);
        yes("threshold", x.rule(0, 0, 0));
        // (1, 1) was a secret then, and was told to be kept beside it; (0, 0) was not told.
        keptIs("0111");
    }

    private static void keptIs(String want) {
        int side = want.length() == 4 ? 2 : 3;
        for (int k = 0; k < want.length(); k++)
            due("kept " + k / side + ", " + k % side, x.kept(0, k / side, k % side), want.charAt(k) - '0', 0);
    }

    private static void fewest() {
        promise = 31;
        tableStatus("fewest", (t, i, j) -> x.fewest(t));
        fresh(new int[][] {{2, 9, 8}, {7, 6, 8}, {6, 5, 7}});
        yes("keep", x.keep(0, 0, 1, true));
        none("nine cells", x.fewest(0), 8);
        due("changes nothing", x.kept(0, 0, 1), 1, 0);
        yes("threshold", x.rule(0, 0, 2));
        due("eight and a secret", x.fewest(0), 3, 0);
        keptIs("110110000");
        yes("costs", x.rule(0, 5, 1));
        due("by numbers", x.fewest(0), 23, 0);
        keptIs("110000110");
        yes("zero", x.cell(0, 2, 1, ZERO, 0));
        due("a zero can't", x.fewest(0), 24, 0);
        keptIs("101000101");
        yes("up", x.rule(0, 4, 100));
        none("none such", x.fewest(0), 10);
        keptIs("101000101");
        yes("threshold", x.rule(0, 0, 0));
        due("the set of none", x.fewest(0), 0, 0);
        keptIs("000000000");
        fewestForgets();
    }

    private static void fewestForgets() {
        fresh(new int[][] {{9, 9}, {9, 9}, {9, 9}});
        yes("keep", x.keep(0, 2, 0, true));
        yes("keep", x.keep(0, 0, 0, true));
        yes("not sound", x.clear(0, 2, 1));
        due("fewest", x.fewest(0), 0, 0);
        yes("cell", x.cell(0, 2, 1, COUNT, 9));
        due("in any row", x.kept(0, 2, 0), 0, 0);
        due("in any row", x.kept(0, 0, 0), 0, 0);
        // A secret that was told to be kept is told so no more.
        fresh(new int[][] {{2, 9}, {7, 6}});
        yes("keep", x.keep(0, 0, 0, true));
        yes("threshold", x.rule(0, 0, 2));
        due("fewest", x.fewest(0), 3, 0);
        yes("threshold", x.rule(0, 0, 0));
        keptIs("0111");
    }

    private static void cost() {
        promise = 32;
        tableStatus("cost", (t, i, j) -> x.cost(t));
        fresh(new int[][] {{2, 9}, {7, 1000000}, {5, 6}});
        due("none", x.cost(0), 0, 0);
        for (int k = 0; k < 6; k++) yes("keep", x.keep(0, k / 2, k % 2, true));
        due("all", x.cost(0), 6, 0);
        yes("costs", x.rule(0, 5, 1));
        due("all", x.cost(0), 1000035, 0);
        yes("threshold", x.rule(0, 0, 2));
        due("no secrets", x.cost(0), 1000032, 0);
        yes("tear", x.tear(0, 2, 1));
        due("of sound rows", x.cost(0), 1000019, 0);
    }

    private static void round() {
        promise = 33;
        tableStatus("round", (t, i, j) -> x.round(t, 2));
        fresh(new int[][] {{3, 3}, {3, 3}});
        none("base 1", x.round(0, 1), 7);
        none("base 0", x.round(0, 0), 7);
        none("base -5", x.round(0, -5), 7);
        none("base 1001", x.round(0, 1001), 7);
        due("base 1000", x.round(0, 1000), 0, 0);
        due("base 2", x.round(0, 2), 2, 0);
        promise = 34;
        roundedIs(new int[][] {{2, 4}, {4, 2}});
        none("wrong", x.round(0, 1), 7);
        roundedIs(new int[][] {{2, 4}, {4, 2}});
        yes("close", x.close(0));
        roundedIs(new int[][] {{2, 4}, {4, 2}});
        none("wrong", x.kind(0, 0, 0), 1);
        due("no status", x.rounded(0, 0), 2, 1);
        int[][] nowhere = {{-1, 0}, {0, -1}, {2, 0}, {0, 2}, {12, 12}, {Integer.MIN_VALUE, Integer.MAX_VALUE}};
        for (int[] n : nowhere) due("nowhere", x.rounded(n[0], n[1]), -1, 1);
        promise = 33;
        // Sums of rows and columns may go to either side, each cell below if it can.
        fresh(new int[][] {{4, 4, 4}, {4, 4, 4}, {4, 4, 4}});
        due("base 10", x.round(0, 10), 4, 0);
        promise = 34;
        roundedIs(new int[][] {{0, 0, 10}, {0, 0, 10}, {10, 10, 0}});
        promise = 33;
        due("block", x.block(0, 1, 1), 1, 0);
        due("base 10", x.round(0, 10), 3, 0);
        promise = 34;
        roundedIs(new int[][] {{0, 0, 10}, {0, 0, 10}, {0, 10, 0}});
        yes("tear", x.tear(0, 1, 2));
        promise = 33;
        due("base 10", x.round(0, 10), 2, 0);
        promise = 34;
        due("not sound", x.rounded(1, 0), -1);
        fresh(new int[][] {{1000000, 999999}, {0, 999}});
        promise = 33;
        due("base 1000", x.round(0, 1000), 1, 0);
        promise = 34;
        roundedIs(new int[][] {{1000000, 999000}, {0, 1000}});
    }

    private static void roundedIs(int[][] want) {
        for (int i = 0; i < want.length; i++)
            for (int j = 0; j < want[i].length; j++) due("rounded " + i + ", " + j, x.rounded(i, j), want[i][j]);
    }

    // ---- 35 to 37

    private static void gifts() {
        promise = 35;
        tableStatus("give", (t, i, j) -> x.give(t));
        fresh(new int[][] {{2, 9}, {7, 6}});
        due("give", x.give(0), 0, 0);
        yes("threshold", x.rule(0, 0, 2));
        none("not safe", x.give(0), 10);
        due("plan", x.plan(0), 3, 0);
        due("give", x.give(0), 1, 0);
        yes("tear", x.tear(0, 1, 1));
        yes("threshold", x.rule(0, 0, 0));
        yes("cell", x.cell(0, 0, 0, COUNT, 3));
        due("give", x.give(0), 2, 0);
        promise = 36;
        int[][] want = {{2, 9, 7, 6}, {-2, -2, -2, -2}, {3, -2, -3, -3}};
        for (int k = 0; k < 3; k++)
            for (int p = 0; p < 4; p++) due("gift " + k, x.gift(k, p / 2, p % 2), want[k][p], 0);
        int[][] nowhere = {{-1, 0, 0}, {3, 0, 0}, {15, 0, 0}, {16, 0, 0}, {0, -1, 0}, {0, 2, 0}, {0, 0, -1}, {0, 0, 2},
            {Integer.MAX_VALUE, 0, 0}, {Integer.MIN_VALUE, 0, 0}, {0, Integer.MAX_VALUE, 0}};
        for (int[] n : nowhere) due("no such", x.gift(n[0], n[1], n[2]), -1, 0);
        promise = 37;
        due("agree", x.agree(0, 1), -2, 0);
        due("agree", x.agree(1, 2), -2, 0);
        due("unlike", x.agree(0, 2), 0, 0);
        due("unlike", x.agree(2, 0), 0, 0);
        due("with itself", x.agree(0, 0), -2, 0);
        for (int k : new int[] {-1, 3, 16, Integer.MAX_VALUE, Integer.MIN_VALUE}) {
            due("no such", x.agree(k, 0), -1, 0);
            due("no such", x.agree(0, k), -1, 0);
        }
        sixteen();
        unlikeSizes();
    }

    private static void sixteen() {
        promise = 35;
        fresh(new int[][] {{2}});
        for (int k = 0; k < 16; k++) due("give", x.give(0), k, 0);
        none("a seventeenth", x.give(0), 8);
        yes("threshold", x.rule(0, 0, 2));
        none("a seventeenth that is not safe", x.give(0), 8);
        promise = 36;
        due("the last", x.gift(15, 0, 0), 2, 8);
        due("none such", x.gift(16, 0, 0), -1, 8);
    }

    private static void unlikeSizes() {
        promise = 37;
        fresh(new int[][] {{5, 6, 7}, {8, 9, 10}});
        yes("open", x.open(1, 3, 2));
        counts(1, new int[][] {{5, 6}, {8, 4}, {5, 5}});
        due("give", x.give(0), 0, 0);
        due("give", x.give(1), 1, 0);
        due("unlike", x.agree(0, 1), 101, 0);
        yes("cell", x.cell(1, 1, 1, COUNT, 9));
        due("give", x.give(1), 2, 0);
        due("agree where both give", x.agree(0, 2), -2, 0);
        yes("cell", x.cell(1, 0, 1, COUNT, 7));
        yes("cell", x.cell(1, 1, 0, COUNT, 7));
        due("give", x.give(1), 3, 0);
        due("the first, row by row", x.agree(0, 3), 1, 0);
        yes("open", x.open(2, 12, 12));
        for (int k = 0; k < 144; k++) yes("cell", x.cell(2, k / 12, k % 12, COUNT, 500));
        due("give", x.give(2), 4, 0);
        yes("cell", x.cell(2, 11, 10, COUNT, 499));
        due("give", x.give(2), 5, 0);
        due("the last row", x.agree(4, 5), 1110, 0);
        yes("cell", x.cell(1, 0, 0, COUNT, 0));
        due("give", x.give(1), 6, 0);
        due("0 is a number too", x.agree(0, 6), 0, 0);
        due("0 is a number too", x.agree(6, 0), 0, 0);
    }

    public static void main(String[] args) {
        newObject();
        status();
        open();
        close();
        rule();
        cell();
        giver();
        clear();
        tear();
        block();
        kindAndNumber();
        giversAndPart();
        handAndKeep();
        soundSumTotal();
        secret();
        kept();
        thousandths();
        spans();
        safe();
        unsafe();
        witness();
        cut();
        plan();
        fewest();
        cost();
        round();
        gifts();
        System.out.println("PromiseTest: " + looked + " answers, " + wrong + " wrong");
        if (wrong != 0) System.exit(1);
    }
}
