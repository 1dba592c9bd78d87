import java.io.IOException;

/** The promises 1 to 37 of the document, sentence by sentence: the words in brackets too, each with its edges. */
public final class SentenceTest extends Bench {
    private static final int[] FAR = {-1, 12, 13, 24, 144, 1 << 28, 1 << 30, LOWEST, HIGHEST};

    // ---- 1 to 5

    private static void newObject() {
        says("No TABLE is open, no GIFT; STATUS 0.");
        x = new CellKeeper();
        due("status", x.status(), 0);
        for (int k = 0; k < 16; k++) due("gift", x.gift(k, 0, 0), -1, 0);
        for (int k = 0; k < 16; k++) due("agree", x.agree(k, k), -1, 0);
        for (int k = 0; k < 12; k++) {
            due("seen", x.seen(k, k), -1, 0);
            due("rounded", x.rounded(k, k), -1, 0);
            due("cut", x.cut(true, k), -1, 0);
            due("cut", x.cut(false, k), -1, 0);
        }
        for (int t = 0; t < 6; t++) {
            int table = t;
            tableCalls().forEach((name, call) -> none(name, call.at(table), 1));
        }
        for (int t = 0; t < 6; t++) yes("can be opened", x.open(t, 1, 1));
        due("the first gift", x.give(0), 0, 0);
        CellKeeper other = new CellKeeper();
        x = other;
        none("another object has its own tables", other.kind(0, 0, 0), 1);
        due("and its own gifts", other.gift(0, 0, 0), -1);
    }

    private static void status() {
        says("The STATUS of the latest call that has one.");
        fresh("5 5");
        int[] want = {1, 2, 7, 0, 11};
        for (int k = 0; k < 5; k++) {
            fresh("5 .");
            if (k == 0) x.close(1);
            if (k == 1) x.sum(0, 1);
            if (k == 2) x.rule(0, 6, 0);
            if (k == 3) x.sound(0, 0);
            if (k == 4) x.sum(0, 0);
            for (int again = 0; again < 3; again++) due("status", x.status(), want[k]);
        }
        due("seen", x.seen(0, 0), -1, 11);
        yes("one that is done makes it 0", x.cell(0, 0, 1, COUNT, 5));
    }

    private static void open() {
        says("A TABLE is open, with so many ROWS and COLUMNS, NOTHING in all PLACES, RULES as at first, no BLOCKS.");
        fresh("!*5 *6 a5+6+7", "!7 8 9", "5 m6 s7");
        int[] rules = {100, 6, 100, 1000000, 1000000, 1};
        for (int k = 0; k < 6; k++) yes("rule", x.rule(0, k, rules[k]));
        due("block", x.block(0, 0, 0), 1, 0);
        due("block", x.block(0, 0, 1), 2, 0);
        yes("torn", x.tear(0, 1, 1));
        yes("missing", x.tear(0, 2, 0));
        yes("close", x.close(0));
        yes("open", x.open(0, 3, 4));
        for (int i = 0; i < 3; i++)
            for (int j = 0; j < 4; j++) due("nothing", x.kind(0, i, j), 0, 0);
        none("so many rows", x.kind(0, 3, 0), 2);
        none("so many columns", x.kind(0, 0, 4), 2);
        // Counts of 3 and 4, amounts with one giver, two, and a tenth left, and 1 up and down tell the rules as at first.
        String[][] words = {{"3", "4", "a5", "a5+5"}, {"a60+30+10", "a60+31+10", "9", "z"}, {"*5", "*1", "5", "a"}};
        for (int i = 0; i < 3; i++)
            for (int j = 0; j < 4; j++) lay(0, i, j, words[i][j]);
        gridIs("secret", "1 0 6 4 / 0 4 0 0 / 0 1 0 0", (i, j) -> x.secret(0, i, j));
        keptIs("1 0 1 1 / 0 1 0 0 / 1 1 0 0");
        due("costs", x.cost(0), 1, 0);
        due("no block", x.total(0, 0, 0), 108, 0);
        due("no block", x.block(0, 0, 0), 1, 0);
        yes("close", x.close(0));
        lay(0, "*5 *1", "*9 *1");
        due("1 up and 1 down", x.safe(0, 0, 0), 1, 0);
        yes("no givers of before", x.cell(0, 0, 0, AMOUNT, 0));
        due("no givers of before", x.givers(0, 0, 0), 0, 0);
        none("no parts of before", x.part(0, 0, 0, 0), 7);
        // A new table is as large as it is told, whatever stood there before.
        yes("close", x.close(0));
        yes("open", x.open(0, 12, 12));
        for (int k = 0; k < 144; k++) yes("cell", x.cell(0, k / 12, k % 12, COUNT, 9));
        yes("close", x.close(0));
        yes("open", x.open(0, 1, 1));
        due("nothing", x.kind(0, 0, 0), 0, 0);
        yes("close", x.close(0));
        yes("open", x.open(0, 12, 12));
        for (int k = 0; k < 144; k++) due("nothing", x.kind(0, k / 12, k % 12), 0, 0);
    }

    private static void close() {
        says("A TABLE is open no more.");
        fresh("*5 *6", "*7 *8");
        due("give", x.give(0), 0, 0);
        due("round", x.round(0, 5), 1, 0);
        due("witness", x.witness(0, 0, 0, true), 11, 0);
        lay(1, "5");
        yes("close", x.close(0));
        tableCalls().forEach((name, call) -> refused(name, () -> call.at(0), 1));
        due("the other one", x.kind(1, 0, 0), 1, 0);
        giftIs(0, "-2 -2 / -2 -2");
        roundedIs("5 5 / 5 10");
        seenIs("11 0 / 1 14");
        cutIs("01", "11");
        yes("open anew", x.open(0, 1, 1));
        due("nothing", x.kind(0, 0, 0), 0, 0);
        yes("empty ones too", x.close(0));
    }

    private static void rule() {
        says("A RULE (0 .. 5) is a number (7 for others).");
        int[] most = {100, 6, 100, 1000000, 1000000, 1};
        fresh("5 a5+5+1", "7 2");
        for (int which = 0; which < 6; which++)
            for (int n : new int[] {-1, 0, 1, most[which], most[which] + 1, LOWEST, HIGHEST}) {
                boolean can = n >= 0 && n <= most[which];
                due("rule " + which + ", " + n, x.rule(0, which, n) ? 1 : 0, can ? 1 : 0, can ? 0 : 7);
            }
        for (int which : new int[] {-1, 6, 7, LOWEST, HIGHEST})
            for (int n : new int[] {-1, 0, 1}) {
                int at = which;
                int to = n;
                refused("rule " + which, () -> bit(x.rule(0, at, to)), 7);
            }
        fresh("5 5");
        yes("a rule of a table without a cell in sound rows", x.clear(0, 0, 0) && x.rule(0, 0, 5));
        lay(0, 0, 0, "5");
        due("holds for what comes later", x.secret(0, 0, 0), 1, 0);
    }

    // ---- 6 to 10

    private static void cell() {
        says("A COUNT (kind 1) or SHARE (3) with that NUMBER, an AMOUNT without GIVERS (2; number 0), a ZERO (4; 0), a MARK (0; 1 .. 99) "
            + "comes to a PLACE, in place of what is there (7 for other kinds and numbers).");
        int[] most = {99, 1000000, 0, 1000000, 0};
        String[] before = {".", "m7", "5", "s5", "a5+5", "z"};
        for (String was : before)
            for (int kind = 0; kind < 5; kind++)
                for (int n : new int[] {kind == 0 ? 1 : 0, most[kind]}) {
                    fresh(was + " 5");
                    yes("cell", x.cell(0, 0, 0, kind, n));
                    due("kind", x.kind(0, 0, 0), kind == 0 ? 5 : kind, 0);
                    due("number", x.number(0, 0, 0), n, 0);
                    due("sound", x.sound(0, 0), kind == 0 ? 0 : 1, 0);
                    if (kind == 2) due("givers", x.givers(0, 0, 0), 0, 0);
                }
        for (String was : before) {
            fresh(was + " 5");
            for (int kind = -2; kind <= 7; kind++)
                for (int n : new int[] {-1, 0, 1, 99, 100, 1000000, 1000001, LOWEST, HIGHEST}) {
                    boolean can = kind >= 0 && kind <= 4 && n >= (kind == 0 ? 1 : 0) && n <= most[kind];
                    int at = kind;
                    int to = n;
                    if (!can) refused("cell " + kind + ", " + n, () -> bit(x.cell(0, 0, 0, at, to)), 7);
                }
        }
        for (int kind : new int[] {LOWEST, HIGHEST, 256, 257}) no("cell", x.cell(0, 0, 0, kind, 0), 7);
        calm("*!5 5");
        yes("the same once more", x.cell(0, 0, 0, COUNT, 5));
        due("is another cell", x.kept(0, 0, 0), 0, 0);
        x = new CellKeeper();
        yes("open", x.open(0, 12, 12));
        for (int k = 0; k < 144; k++) yes("cell", x.cell(0, k / 12, k % 12, COUNT, 1000 + k));
        for (int k = 0; k < 144; k++) due("each place has its own", x.number(0, k / 12, k % 12), 1000 + k, 0);
    }

    private static void giver() {
        says("An AMOUNT has one GIVER more (5; 6: no AMOUNT; 7: another PART; 8: it has six).");
        fresh(". m5 5 s5 z a");
        refused("nothing", () -> bit(x.giver(0, 0, 0, 5)), 5);
        for (int j = 1; j < 5; j++) {
            int at = j;
            refused("no amount", () -> bit(x.giver(0, 0, at, 5)), 6);
        }
        for (int part : new int[] {0, -1, 100001, LOWEST, HIGHEST})
            refused("part " + part, () -> bit(x.giver(0, 0, 5, part)), 7);
        int[] parts = {1, 100000, 7, 7, 50000, 2};
        int sum = 0;
        for (int k = 0; k < 6; k++) {
            yes("giver", x.giver(0, 0, 5, parts[k]));
            sum += parts[k];
            due("givers", x.givers(0, 0, 5), k + 1, 0);
            due("number", x.number(0, 0, 5), sum, 0);
            for (int p = 0; p <= k; p++) due("part " + p, x.part(0, 0, 5, p), parts[p], 0);
        }
        refused("a seventh", () -> bit(x.giver(0, 0, 5, 1)), 8);
        refused("a seventh that can't be", () -> bit(x.giver(0, 0, 5, 0)), 7);
        yes("a new amount", x.cell(0, 0, 5, AMOUNT, 0));
        yes("has room again", x.giver(0, 0, 5, 9));
        due("number", x.number(0, 0, 5), 9, 0);
        x = new CellKeeper();
        yes("open", x.open(0, 12, 12));
        for (int k = 0; k < 36; k++) {
            int i = k / 6 * 2 + k % 2;
            int j = k % 6 * 2 + 1;
            yes("amount", x.cell(0, i, j, AMOUNT, 0));
            for (int p = 0; p < 6; p++) yes("giver", x.giver(0, i, j, 100 * k + p + 1));
        }
        for (int k = 0; k < 36; k++)
            for (int p = 0; p < 6; p++)
                due("each amount has its own", x.part(0, k / 6 * 2 + k % 2, k % 6 * 2 + 1, p), 100 * k + p + 1, 0);
    }

    private static void clear() {
        says("A PLACE has NOTHING any more (5 if it had).");
        for (String was : new String[] {"m7", "5", "s5", "a5+5", "z", "!*5"}) {
            calm(was + " 5", "6 6");
            yes("clear", x.clear(0, 0, 0));
            due("kind", x.kind(0, 0, 0), 0, 0);
            none("number", x.number(0, 0, 0), 5);
            due("sound", x.sound(0, 0), 0, 0);
            refused("clear again", () -> bit(x.clear(0, 0, 0)), 5);
            due("the place beside", x.number(0, 0, 1), 5, 0);
            due("the place below", x.number(0, 1, 0), 6, 0);
            lay(0, 0, 0, "5");
            due("nothing of before", x.kept(0, 0, 0), 0, 0);
            yes("amount", x.cell(0, 0, 0, AMOUNT, 0));
            due("nothing of before", x.givers(0, 0, 0), 0, 0);
        }
        fresh(".");
        refused("clear", () -> bit(x.clear(0, 0, 0)), 5);
    }

    private static void tear() {
        says("A ROW has its first PLACES alone, so many (7: below 0; 4: more than it has; as many: nothing changes).");
        fresh("!*5 6 7 8", "1 2 3 4");
        for (int places : new int[] {-1, -2, -1000000, LOWEST}) refused("tear " + places, () -> bit(x.tear(0, 0, places)), 7);
        for (int places : new int[] {5, 6, 12, 13, HIGHEST}) refused("tear " + places, () -> bit(x.tear(0, 0, places)), 4);
        for (int had = 4; had > 0; had--) {
            String before = state();
            yes("as many", x.tear(0, 0, had));
            same("as many changes something: it", state(), before);
            yes("one fewer", x.tear(0, 0, had - 1));
            int now = had - 1;
            refused("one more", () -> bit(x.tear(0, 0, now + 1)), now == 0 ? 3 : 4);
            if (now > 0) refused("below 0", () -> bit(x.tear(0, 0, -1)), 7);
            for (int j = 0; j < 4; j++) due("number", x.number(0, 0, j), j < now ? 5 + j : -1, j < now ? 0 : now == 0 ? 3 : 4);
            gridIs("the other row", "1 2 3 4", (i, j) -> x.number(0, 1, j));
            if (now > 0) yes("a place it has can be told anew", x.cell(0, 0, now - 1, COUNT, 5 + now - 1));
        }
        refused("a missing one", () -> bit(x.tear(0, 0, 0)), 3);
        refused("a missing one", () -> bit(x.tear(0, 0, -1)), 3);
        fresh("5");
        yes("the only place", x.tear(0, 0, 0));
        none("is missing", x.kind(0, 0, 0), 3);
        yes("close", x.close(0));
        yes("open", x.open(0, 1, 1));
        due("a new row is whole", x.kind(0, 0, 0), 0, 0);
    }

    private static void block() {
        says("A BLOCK of the ROWS from first to last (2: none such, or last below first; 8: twelve are there; 9).");
        fresh("1", "2", "4", "8");
        int[][] outside = {{-1, 0}, {0, 4}, {4, 4}, {3, 2}, {1, 0}, {-1, -1}, {-1, 4}, {4, 0}, {LOWEST, 0}, {0, HIGHEST},
            {LOWEST, HIGHEST}, {HIGHEST, LOWEST}, {HIGHEST, HIGHEST}};
        for (int[] b : outside) refused(b[0] + " to " + b[1], () -> x.block(0, b[0], b[1]), 2);
        due("block", x.block(0, 1, 2), 1, 0);
        gridIs("total", "9 / 6 / 6 / 9", (i, j) -> x.total(0, i, 0));
        refused("the same", () -> x.block(0, 1, 2), 9);
        refused("across", () -> x.block(0, 0, 1), 9);
        refused("across", () -> x.block(0, 2, 3), 9);
        due("of one row", x.block(0, 0, 0), 2, 0);
        due("of all rows", x.block(0, 0, 3), 3, 0);
        due("within", x.block(0, 1, 1), 4, 0);
        refused("across two", () -> x.block(0, 0, 1), 9);
        due("around two", x.block(0, 0, 2), 5, 0);
        gridIs("total", "1 / 2 / 4 / 8", (i, j) -> x.total(0, i, 0));
        says("How many there are.");
        x = new CellKeeper();
        yes("open", x.open(0, 12, 1));
        for (int k = 0; k < 11; k++) due("block", x.block(0, k, k), k + 1, 0);
        none("one that may not lie so is not counted", x.block(0, 3, 3), 9);
        none("none such", x.block(0, 3, 12), 2);
        due("the twelfth", x.block(0, 0, 11), 12, 0);
        none("twelve are there", x.block(0, 11, 11), 8);
        none("twelve are there, and it may not lie so", x.block(0, 0, 11), 8);
        none("twelve are there, and there are none such", x.block(0, 12, 12), 2);
    }

    // ---- 11 to 19

    private static void kindToPart() {
        says("What a PLACE has: 0 NOTHING, 5 a MARK, else its CELL's KIND.");
        fresh(". m99 5 a s5 z", "5 5 5 5 5 5", "5 5 5 5 5 5");
        yes("torn", x.tear(0, 1, 5));
        yes("missing", x.tear(0, 2, 0));
        gridIs("kind", "0 5 1 2 3 4", (i, j) -> x.kind(0, i, j));
        due("the last place of a torn row", x.kind(0, 1, 4), 1, 0);
        none("behind it", x.kind(0, 1, 5), 4);
        none("of a missing row", x.kind(0, 2, 0), 3);
        says("The NUMBER of a PLACE's CELL, or its MARK (5).");
        gridIs("number", "-1 99 5 0 5 0", (i, j) -> x.number(0, i, j));
        none("nothing", x.number(0, 0, 0), 5);
        due("in a row that is not sound", x.number(0, 1, 0), 5, 0);
        lay(0, 0, 0, "a600+40+2");
        lay(0, 0, 1, "m1");
        gridIs("number", "642 1 5 0 5 0", (i, j) -> x.number(0, i, j));
        says("How many GIVERS an AMOUNT has (5, 6).");
        due("three", x.givers(0, 0, 0), 3, 0);
        due("none", x.givers(0, 0, 3), 0, 0);
        for (int j : new int[] {1, 2, 4, 5}) none("no amount", x.givers(0, 0, j), 6);
        yes("clear", x.clear(0, 0, 1));
        none("nothing", x.givers(0, 0, 1), 5);
        says("PART k of an AMOUNT, the first one told 0 (5, 6; 7: no such).");
        int[] parts = {600, 40, 2};
        for (int k = 0; k < 3; k++) due("part " + k, x.part(0, 0, 0, k), parts[k], 0);
        for (int k : new int[] {3, 6, 7, -1, LOWEST, HIGHEST}) none("part " + k, x.part(0, 0, 0, k), 7);
        none("part of none", x.part(0, 0, 3, 0), 7);
        for (int j : new int[] {2, 4, 5}) none("no amount", x.part(0, 0, j, 0), 6);
        none("nothing", x.part(0, 0, 1, 0), 5);
        lay(0, 0, 0, "a1+2+3+4+5+6");
        due("the last of six", x.part(0, 0, 0, 5), 6, 0);
        none("no seventh", x.part(0, 0, 0, 6), 7);
        lay(0, 0, 0, "a8");
        none("no second", x.part(0, 0, 0, 1), 7);
    }

    private static void handAndKeep() {
        says("A hand tells, or tells no more, that a CELL is a SECRET (5; 6: a MARK, a ZERO).");
        calm(". m5 z 5 s0 a");
        refused("nothing", () -> bit(x.hand(0, 0, 0, true)), 5);
        for (int j = 1; j < 3; j++) {
            int at = j;
            refused("a mark, a zero", () -> bit(x.hand(0, 0, at, true)), 6);
            refused("a mark, a zero", () -> bit(x.hand(0, 0, at, false)), 6);
        }
        for (int j = 3; j < 6; j++) yes("of a row that is not sound", x.hand(0, 0, j, true));
        lay(0, 0, 0, "0");
        lay(0, 0, 1, "5");
        gridIs("secret", "0 0 0 8 8 8", (i, j) -> x.secret(0, i, j));
        yes("once more", x.hand(0, 0, 3, true));
        yes("of 0 too", x.hand(0, 0, 0, true));
        yes("no more", x.hand(0, 0, 3, false));
        yes("what was not told", x.hand(0, 0, 1, false));
        gridIs("secret", "8 0 0 0 8 8", (i, j) -> x.secret(0, i, j));
        yes("threshold", x.rule(0, 0, 5));
        yes("no more", x.hand(0, 0, 3, false));
        due("what it is without a hand stays", x.secret(0, 0, 3), 1, 0);
        says("A CELL is told, or told no more, to be KEPT (5; 6: a MARK, a ZERO).");
        calm(". m5 z 5 s0 a !5");
        refused("nothing", () -> bit(x.keep(0, 0, 0, true)), 5);
        for (int j = 1; j < 3; j++) {
            int at = j;
            refused("a mark, a zero", () -> bit(x.keep(0, 0, at, true)), 6);
            refused("a mark, a zero", () -> bit(x.keep(0, 0, at, false)), 6);
        }
        for (int j = 3; j < 7; j++) yes("of a row that is not sound", x.keep(0, 0, j, true));
        lay(0, 0, 0, "0");
        lay(0, 0, 1, "5");
        keptIs("0 0 0 1 1 1 1");
        yes("once more", x.keep(0, 0, 3, true));
        for (int j = 3; j < 7; j++) yes("no more", x.keep(0, 0, j, false));
        keptIs("0 0 0 0 0 0 1");
        yes("hand no more", x.hand(0, 0, 6, false));
        keptIs("0 0 0 0 0 0 0");
        yes("hand and keep", x.hand(0, 0, 3, true) && x.keep(0, 0, 3, true));
        yes("hand no more", x.hand(0, 0, 3, false));
        due("keep is its own", x.kept(0, 0, 3), 1, 0);
        due("keep makes no secret", x.secret(0, 0, 3), 0, 0);
    }

    private static void sums() {
        says("Whether a ROW is SOUND: 1 or 0 (1, 2).");
        fresh("5 6", "5 .", "m5 6", "5 6", "5 6", "z z");
        yes("torn", x.tear(0, 3, 1));
        yes("missing", x.tear(0, 4, 0));
        gridIs("sound", "1 / 0 / 0 / 0 / 0 / 1", (i, j) -> x.sound(0, i));
        for (int i = 0; i < 6; i++) due("status", x.sound(0, i) < 0 ? 1 : 0, 0, 0);
        for (int i : FAR) none("no such row", x.sound(0, i), 2);
        none("no such row", x.sound(0, 6), 2);
        none("no such table", x.sound(1, 6), 1);
        says("The sum of a ROW (11).");
        due("sum", x.sum(0, 0), 11, 0);
        due("sum of zeros", x.sum(0, 5), 0, 0);
        for (int i = 1; i < 5; i++) none("not sound", x.sum(0, i), 11);
        for (int i : FAR) none("no such row", x.sum(0, i), 2);
        says("The sum of a COLUMN over all SOUND ROWS of the CLASS of a ROW (11).");
        due("total", x.total(0, 0, 1), 6, 0);
        due("total", x.total(0, 5, 0), 5, 0);
        for (int i = 1; i < 5; i++)
            for (int j = 0; j < 2; j++) none("not sound", x.total(0, i, j), 11);
        for (int k : FAR) {
            none("no such row", x.total(0, k, 0), 2);
            none("no such column", x.total(0, 0, k), 2);
            none("no such column of a row that is not sound", x.total(0, 1, k), 2);
            none("no such column of a missing row", x.total(0, 4, k), 2);
        }
        due("block", x.block(0, 0, 2), 1, 0);
        due("total", x.total(0, 5, 0), 0, 0);
        x = new CellKeeper();
        yes("open", x.open(0, 12, 12));
        for (int k = 0; k < 144; k++) yes("cell", x.cell(0, k / 12, k % 12, COUNT, 1000000));
        for (int k = 0; k < 12; k++) due("the greatest sum", x.sum(0, k), 12000000, 0);
        for (int k = 0; k < 12; k++) due("the greatest total", x.total(0, 11 - k, k), 12000000, 0);
    }

    // ---- 20 to 26

    private static void ofSoundRows(OfPlace call) {
        fresh("s5 s5 m5 .", "s5 s5 s5 s5", "s5 s5 s5 s5", "s5 s5 s5 s5");
        yes("torn", x.tear(0, 1, 3));
        yes("missing", x.tear(0, 2, 0));
        none("no such table", call.at(1, 0, 0), 1);
        none("no such row", call.at(0, 4, 0), 2);
        none("no such column", call.at(0, 0, 4), 2);
        none("missing", call.at(0, 2, 0), 3);
        none("missing", call.at(0, 2, 3), 3);
        none("not so many places", call.at(0, 1, 3), 4);
        none("nothing", call.at(0, 0, 3), 5);
        none("a mark", call.at(0, 0, 2), 6);
        none("not sound", call.at(0, 0, 0), 11);
        none("not sound", call.at(0, 1, 2), 11);
        due("sound", call.at(0, 3, 0) < 0 ? 1 : 0, 0, 0);
    }

    private static void secretAndKept() {
        says("Why a CELL is a SECRET, the sum of 1, 2, 4, 8; 0 if it is none (3, 4, 5, 6: a MARK; 11).");
        ofSoundRows((t, i, j) -> x.secret(t, i, j));
        fresh("3 4 !3 !4 a5 a5+5 a5+5+5", "!a5 !a5+5 !a5+5+5 z !s5 s1 a");
        gridIs("secret", "1 0 9 8 6 4 0 / 14 12 8 0 8 0 0", (i, j) -> x.secret(0, i, j));
        yes("no percent", x.rule(0, 2, 0));
        gridIs("secret", "1 0 9 8 2 0 0 / 10 8 8 0 8 0 0", (i, j) -> x.secret(0, i, j));
        due("a zero has a status of 0", x.secret(0, 1, 3), 0, 0);
        says("Whether a CELL is KEPT: 1 or 0 (as secret()).");
        ofSoundRows((t, i, j) -> x.kept(t, i, j));
        fresh("3 4 *3 *4 a5 z *s5 s5");
        keptIs("1 0 1 1 1 0 1 0");
        due("a zero has a status of 0", x.kept(0, 0, 5), 0, 0);
        says("THOUSANDTHS of a SHARE (as secret(); 6: no SHARE).");
        ofSoundRows((t, i, j) -> x.thousandths(t, i, j));
        fresh("5 a5 z s5 s0 *s6", "5 a5 z s5 . m1");
        for (int j : new int[] {0, 1, 2}) none("no share", x.thousandths(0, 0, j), 6);
        for (int j : new int[] {0, 1, 2, 5}) none("no share, in a row that is not sound", x.thousandths(0, 1, j), 6);
        none("a share in it", x.thousandths(0, 1, 3), 11);
        due("5 of 21", x.thousandths(0, 0, 3), 238, 0);
        due("0 of 21", x.thousandths(0, 0, 4), 0, 0);
        due("6 of 21", x.thousandths(0, 0, 5), 285, 0);
    }

    private static void ends() {
        says("The LEAST NUMBER of a CELL (as secret()).");
        ofSoundRows((t, i, j) -> x.least(t, i, j));
        calm("*5 *9 z", "*7 *3 6");
        gridIs("least", "2 2 0 / 0 0 6", (i, j) -> x.least(0, i, j));
        due("of a zero", x.least(0, 0, 2), 0, 0);
        says("The GREATEST NUMBER of a CELL (as secret()).");
        ofSoundRows((t, i, j) -> x.greatest(t, i, j));
        calm("*5 *9 z", "*7 *3 6");
        gridIs("greatest", "12 12 0 / 10 10 6", (i, j) -> x.greatest(0, i, j));
        due("of a zero", x.greatest(0, 0, 2), 0, 0);
        says("Whether a CELL is SAFE: 1 or 0 (as secret()).");
        ofSoundRows((t, i, j) -> x.safe(t, i, j));
        calm("*5 *9 z", "*7 *3 6");
        gridIs("safe", "1 1 0 / 1 1 0", (i, j) -> x.safe(0, i, j));
        yes("down", x.rule(0, 3, 4));
        gridIs("safe", "0 1 0 / 1 1 0", (i, j) -> x.safe(0, i, j));
        yes("up", x.rule(0, 4, 4));
        gridIs("safe", "0 0 0 / 0 1 0", (i, j) -> x.safe(0, i, j));
        yes("nothing wanted", x.rule(0, 3, 0) && x.rule(0, 4, 0));
        gridIs("safe", "1 1 1 / 1 1 1", (i, j) -> x.safe(0, i, j));
        says("How many SECRETS of a TABLE aren't SAFE.");
        fresh(". .", "m5 5");
        due("none", x.unsafe(0), 0, 0);
        calm("!5 !9 !2", "!7 !3 !2", "!1 *8 8");
        due("all in rings", x.unsafe(0), 0, 0);
        calm("!5 9 !2", "7 !3 2", "*1 8 8");
        due("three", x.unsafe(0), 3, 0);
        calm("!5 *9 2", "*7 *3 2", "1 8 !8");
        due("one of two", x.unsafe(0), 1, 0);
        yes("all that is wanted is nothing", x.rule(0, 3, 0) && x.rule(0, 4, 0));
        due("none", x.unsafe(0), 0, 0);
        x = new CellKeeper();
        yes("open", x.open(0, 12, 12));
        for (int k = 0; k < 144; k++) yes("cell", x.cell(0, k / 12, k % 12, COUNT, 3));
        due("all kept, all safe", x.unsafe(0), 0, 0);
        yes("up", x.rule(0, 4, 33));
        due("up to the sum of a row", x.unsafe(0), 0, 0);
        yes("up", x.rule(0, 4, 34));
        due("one farther", x.unsafe(0), 144, 0);
        yes("no threshold", x.rule(0, 0, 0));
        due("no secrets", x.unsafe(0), 0, 0);
    }

    // ---- 27 to 29

    private static void witness() {
        says("The WITNESS of a CELL's LEAST (greatest false) or GREATEST end is kept, with its CUT, till the next one: "
            + "what the CELL has in it (as secret()).");
        ofSoundRows((t, i, j) -> x.witness(t, i, j, true));
        ofSoundRows((t, i, j) -> x.witness(t, i, j, false));
        calm("*5 *9", "*7 *3");
        due("greatest", x.witness(0, 0, 0, true), 12, 0);
        seenIs("12 2 / 0 10");
        cutIs("00", "10");
        yes("later changes", x.cell(0, 0, 0, COUNT, 1) && x.keep(0, 1, 1, false) && x.tear(0, 1, 1));
        due("other calls", x.round(0, 5) + x.least(0, 0, 0) + x.give(0) > 0 ? 0 : 1, 0, 0);
        seenIs("12 2 / 0 10");
        cutIs("00", "10");
        for (int status : new int[] {1, 2, 3, 6, 11}) {
            lay(0, 0, 1, "m5");
            int table = status == 1 ? 3 : 0;
            int row = status == 2 ? 7 : status == 3 ? 1 : 0;
            if (status == 3) yes("tear", x.tear(0, 1, 0));
            int column = status == 6 ? 1 : 0;
            none("a refused one", x.witness(table, row, column, false), status);
            seenIs("12 2 / 0 10");
            cutIs("00", "10");
        }
        yes("close", x.close(0));
        lay(0, "4");
        seenIs("12 2 / 0 10");
        due("the next one", x.witness(0, 0, 0, false), 4, 0);
        seenIs("4");
        due("nothing is left of the one before", x.seen(0, 1) + x.seen(1, 0) + x.seen(1, 1), -3);
        cutIs("1", "0");
        due("nothing is left of the one before", x.cut(true, 1) + x.cut(false, 1), -2);
        seenAndCut();
    }

    private static void seenAndCut() {
        says("What the WITNESS that is kept has in a PLACE (of ROWS that were SOUND); NONE without one, or elsewhere.");
        x = new CellKeeper();
        due("without one", x.seen(0, 0), -1, 0);
        calm("*5 *9 s6", "*7 *3 z", "5 . 5", "5 m5 5", "5 5 5", "5 5 5");
        yes("torn", x.tear(0, 4, 2));
        yes("missing", x.tear(0, 5, 0));
        due("without one", x.seen(0, 0), -1, 0);
        due("witness", x.witness(0, 1, 1, false), 0, 0);
        seenIs("2 12 6 / 10 0 0 / -1 -1 -1 / -1 -1 -1 / -1 -1 -1 / -1 -1 -1");
        lay(0, 2, 1, "5");
        due("of a row that was not sound then", x.seen(2, 1), -1);
        yes("clear", x.clear(0, 0, 0));
        due("of a row that was sound then", x.seen(0, 0), 2);
        for (int k : FAR) {
            due("no such row", x.seen(k, 0), -1);
            due("no such column", x.seen(0, k), -1);
            due("neither", x.seen(k, k), -1);
        }
        due("behind the last row", x.seen(6, 0), -1);
        due("behind the last column", x.seen(0, 3), -1);
        says("It has no STATUS.");
        none("a status of 1", x.cost(5), 1);
        due("seen", x.seen(0, 0), 2, 1);
        due("seen", x.seen(-1, 0), -1, 1);
        due("cut", x.cut(true, 0), 1, 1);
        due("cut", x.cut(true, -1), -1, 1);
        due("rounded", x.rounded(0, 0), -1, 1);
        due("gift", x.gift(0, 0, 0), -1, 1);
        due("agree", x.agree(0, 0), -1, 1);
        says("Whether the CUT that is kept has ROW k (rows true) or COLUMN k: 1 or 0; NONE without one.");
        cutIs("110000", "110");
        for (int k : FAR) {
            due("no such row", x.cut(true, k), -1);
            due("no such column", x.cut(false, k), -1);
        }
        due("behind the last row", x.cut(true, 6), -1);
        due("behind the last column", x.cut(false, 3), -1);
        x = new CellKeeper();
        due("without one", x.cut(true, 0), -1, 0);
        due("without one", x.cut(false, 0), -1, 0);
        calm("*5 5");
        due("a refused one", x.witness(0, 1, 0, true), -1, 2);
        due("still without one", x.cut(true, 0) + x.cut(false, 0), -2, 2);
        largeCut();
    }

    private static void largeCut() {
        x = new CellKeeper();
        yes("open", x.open(0, 12, 12));
        for (int k = 0; k < 144; k++) yes("cell", x.cell(0, k / 12, k % 12, COUNT, 3));
        due("witness", x.witness(0, 11, 11, true), 36, 0);
        for (int k = 0; k < 12; k++) {
            due("row", x.cut(true, k), 0);
            due("column", x.cut(false, k), k == 11 ? 1 : 0);
        }
        due("witness", x.witness(0, 11, 11, false), 0, 0);
        for (int k = 0; k < 12; k++) {
            due("row", x.cut(true, k), 1);
            due("column", x.cut(false, k), 1);
        }
    }

    // ---- 30 to 34

    private static void guards() {
        says("PLAN: how many CELLS more are KEPT by it (10 if it fails).");
        fresh(". .");
        due("an empty table", x.plan(0), 0, 0);
        calm("!5 9 9", "9 9 9");
        due("three", x.plan(0), 3, 0);
        due("again", x.plan(0), 0, 0);
        calm("!5 *9 9", "*9 9 9");
        due("two are kept before", x.plan(0), 1, 0);
        calm("!5 *9 9", "*9 *9 9");
        due("all are", x.plan(0), 0, 0);
        yes("up", x.rule(0, 4, 10));
        refused("it fails", () -> x.plan(0), 10);
        yes("up", x.rule(0, 4, 9));
        due("just so far", x.plan(0), 0, 0);
        says("FEWEST: its COST (8: more than 8 such CELLS; 10: there is no such set).");
        fresh(". .");
        due("an empty table", x.fewest(0), 0, 0);
        calm("!5 9 9", "9 9 9");
        due("three", x.fewest(0), 3, 0);
        due("again", x.fewest(0), 3, 0);
        yes("costs", x.rule(0, 5, 1));
        due("by numbers", x.fewest(0), 30, 0);
        yes("up", x.rule(0, 4, 10));
        refused("no such set", () -> x.fewest(0), 10);
        calm("!5 9 9 9", "9 9 9 9", "z z z z");
        due("seven", x.fewest(0), 3, 0);
        lay(0, 2, 0, "9");
        due("eight", x.fewest(0), 3, 0);
        lay(0, 2, 1, "0");
        refused("nine", () -> x.fewest(0), 8);
        yes("the dearest", x.rule(0, 5, 1));
        calm("!5 1000000", "1000000 1000000");
        yes("costs", x.rule(0, 5, 1));
        due("the dearest", x.fewest(0), 3000003, 0);
        says("The COST of the CELLS of SOUND ROWS that are KEPT and no SECRETS.");
        fresh(". .");
        due("an empty table", x.cost(0), 0, 0);
        calm("*5 !*6 7 z", "!8 *9 0 *0", "*5 *5 *5 .", "*5 *5 *5 m4");
        due("three", x.cost(0), 3, 0);
        yes("costs", x.rule(0, 5, 1));
        due("6 and 10 and 1", x.cost(0), 17, 0);
        yes("hand no more", x.hand(0, 0, 1, false));
        due("and 7", x.cost(0), 24, 0);
        lay(0, 2, 3, "*4");
        due("the row is sound now", x.cost(0), 47, 0);
        yes("threshold", x.rule(0, 0, 5));
        due("those are secrets now", x.cost(0), 18, 0);
        x = new CellKeeper();
        yes("open", x.open(0, 12, 12));
        yes("costs", x.rule(0, 5, 1));
        for (int k = 0; k < 144; k++) yes("cell", x.cell(0, k / 12, k % 12, COUNT, 1000000) && x.keep(0, k / 12, k % 12, true));
        due("the dearest of all", x.cost(0), 144000144, 0);
    }

    private static void round() {
        says("A TABLE is ROUNDED to a BASE, which is kept till the next one (7: another BASE): how many of its CELLS are above.");
        fresh(". .");
        due("an empty table", x.round(0, 2), 0, 0);
        roundedIs("-1 -1");
        calm("3 3", "3 3", "3 .");
        due("base 5", x.round(0, 5), 2, 0);
        roundedIs("0 5 / 5 0 / -1 -1");
        for (int base : new int[] {1, 0, -1, -5, 1001, 1002, LOWEST, HIGHEST}) {
            none("base " + base, x.round(0, base), 7);
            roundedIs("0 5 / 5 0 / -1 -1");
        }
        none("another table", x.round(1, 5), 1);
        roundedIs("0 5 / 5 0 / -1 -1");
        yes("later changes", x.cell(0, 0, 0, COUNT, 8) && x.close(0));
        roundedIs("0 5 / 5 0 / -1 -1");
        lay(0, "999 1");
        due("the greatest base", x.round(0, 1000), 1, 0);
        roundedIs("0 1000");
        due("nothing is left of the one before", x.rounded(1, 0), -1);
        due("the least base", x.round(0, 2), 1, 0);
        roundedIs("998 2");
        x = new CellKeeper();
        yes("open", x.open(0, 12, 12));
        for (int k = 0; k < 144; k++) yes("cell", x.cell(0, k / 12, k % 12, COUNT, 999999));
        due("eleven of each row and column", x.round(0, 1000), 132, 0);
        says("What a PLACE is ROUNDED to; NONE as seen().");
        int above = 0;
        for (int k = 0; k < 144; k++) above += x.rounded(k / 12, k % 12) == 1000000 ? 1 : 0;
        due("above", above, 132);
        due("a first one below", x.rounded(0, 0), 999000);
        calm("3 4", "z .");
        due("round", x.round(0, 6), 1, 0);
        roundedIs("0 6 / -1 -1");
        lay(0, 1, 1, "4");
        due("of a row that was not sound then", x.rounded(1, 0), -1);
        yes("clear", x.clear(0, 0, 0));
        due("of a row that was sound then", x.rounded(0, 1), 6);
        for (int k : FAR) {
            due("no such row", x.rounded(k, 0), -1);
            due("no such column", x.rounded(0, k), -1);
        }
        due("behind the last row", x.rounded(2, 0), -1);
        due("behind the last column", x.rounded(0, 2), -1);
        x = new CellKeeper();
        due("without one", x.rounded(0, 0), -1, 0);
    }

    // ---- 35 to 37

    private static void gifts() {
        says("A TABLE is GIVEN OUT: the GIFT's number (8: there are 16; 10).");
        calm("!5 9", "9 9");
        refused("a secret that is not safe", () -> x.give(0), 10);
        due("plan", x.plan(0), 3, 0);
        lay(5, ". .");
        due("the first", x.give(0), 0, 0);
        due("an empty table", x.give(5), 1, 0);
        yes("keep no more", x.keep(0, 1, 1, false));
        refused("one that is refused", () -> x.give(0), 10);
        for (int k = 2; k < 16; k++) due("one that is refused takes no number", x.give(5), k, 0);
        refused("there are 16", () -> x.give(5), 8);
        refused("there are 16, and a secret is not safe", () -> x.give(0), 8);
        refused("no such table", () -> x.give(4), 1);
        says("What a GIFT tells of a PLACE: its NUMBER; -2 KEPT, -3 its ROW isn't SOUND; NONE if there is none such.");
        giftIs(0, "-2 -2 / -2 -2");
        for (int k = 1; k < 16; k++) giftIs(k, "-3 -3");
        for (int k : new int[] {-1, 16, 17, LOWEST, HIGHEST}) due("no such gift", x.gift(k, 0, 0), -1);
        for (int k : FAR) {
            due("no such row", x.gift(0, k, 0), -1);
            due("no such column", x.gift(0, 0, k), -1);
        }
        due("behind the last row", x.gift(0, 2, 0), -1);
        due("behind the last column", x.gift(0, 0, 2), -1);
        due("behind the only row", x.gift(1, 1, 0), -1);
        calm("0 z *0 1000000 s5 a", "*5 5 5 5 5 .");
        due("give", x.give(0), 0, 0);
        giftIs(0, "0 0 -2 1000000 5 0 / -3 -3 -3 -3 -3 -3");
        due("not yet", x.gift(1, 0, 0), -1);
        agree();
    }

    private static void agree() {
        says("100 times the ROW and the COLUMN of the first PLACE (ROW by ROW) that two GIFTS both give with unlike NUMBERS; "
            + "-2 if they AGREE; NONE if there is none such.");
        x = new CellKeeper();
        yes("open", x.open(0, 12, 12));
        yes("threshold", x.rule(0, 0, 0));
        for (int k = 0; k < 144; k++) yes("cell", x.cell(0, k / 12, k % 12, COUNT, 5));
        due("give", x.give(0), 0, 0);
        int[][] places = {{11, 11}, {11, 0}, {5, 11}, {5, 3}, {0, 11}, {0, 1}, {0, 0}};
        for (int k = 0; k < places.length; k++) {
            int[] p = places[k];
            yes("cell", x.cell(0, p[0], p[1], COUNT, k % 2 == 0 ? 0 : 6));
            due("give", x.give(0), k + 1, 0);
            due("the first unlike", x.agree(0, k + 1), 100 * p[0] + p[1]);
            due("both ways", x.agree(k + 1, 0), 100 * p[0] + p[1]);
            due("with itself", x.agree(k + 1, k + 1), -2);
            due("with the one before", x.agree(k, k + 1), 100 * p[0] + p[1]);
        }
        yes("keep", x.keep(0, 0, 0, true));
        due("give", x.give(0), 8, 0);
        due("without a kept one", x.agree(0, 8), 1);
        yes("clear", x.clear(0, 0, 7));
        due("give", x.give(0), 9, 0);
        due("without a row that is not sound", x.agree(9, 0), 503);
        for (int k : new int[] {-1, 10, 15, 16, LOWEST, HIGHEST}) {
            due("no such", x.agree(k, 0), -1);
            due("no such", x.agree(0, k), -1);
            due("no such", x.agree(k, k), -1);
        }
    }

    public static void main(String[] args) throws IOException {
        newObject();
        status();
        open();
        close();
        rule();
        cell();
        giver();
        clear();
        tear();
        block();
        kindToPart();
        handAndKeep();
        sums();
        secretAndKept();
        ends();
        witness();
        guards();
        round();
        gifts();
        end("SentenceTest", args, "## Promise 1:", "## Not promised");
    }
}
