import java.util.Arrays;

/** An office that gives out tables of counts with some cells kept back; the rules stand in DOC.md. */
public final class CellKeeper {
    public static final int NONE = -1;

    private static final int TABLES = 6;
    private static final int SIDE = 12;
    private static final int PLACES = SIDE * SIDE;
    private static final int GIVERS = 6;
    private static final int BLOCKS = 12;
    private static final int GIFTS = 16;
    private static final int CHOICES = 8;

    private static final int MOST_MARK = 99;
    private static final int MOST_NUMBER = 1000000;
    private static final int MOST_PART = 100000;
    private static final int LEAST_BASE = 2;
    private static final int MOST_BASE = 1000;

    private static final int NOTHING = 0;
    private static final int COUNT = 1;
    private static final int AMOUNT = 2;
    private static final int SHARE = 3;
    private static final int ZERO = 4;
    private static final int MARK = 5;
    private static final int TOLD_MARK = 0;

    /** What was told of a cell, as bits. */
    private static final int SECRET_BY_HAND = 1;
    private static final int TO_BE_KEPT = 2;

    private static final int THRESHOLD = 0;
    private static final int WANTED = 1;
    private static final int PERCENT = 2;
    private static final int DOWN = 3;
    private static final int UP = 4;
    private static final int COSTS = 5;
    private static final int[] RULES_AT_FIRST = {3, 2, 10, 1, 1, 0};
    private static final int[] RULES_AT_MOST = {100, 6, 100, 1000000, 1000000, 1};

    private static final int FINE = 0;
    private static final int NO_TABLE = 1;
    private static final int NO_PLACE = 2;
    private static final int ROW_MISSING = 3;
    private static final int ROW_SHORT = 4;
    private static final int PLACE_EMPTY = 5;
    private static final int OTHER_KIND = 6;
    private static final int BAD_NUMBER = 7;
    private static final int TOO_MANY = 8;
    private static final int BAD_BLOCK = 9;
    private static final int NOT_SAFE = 10;
    private static final int NOT_SOUND = 11;

    private static final int GIFT_KEPT = -2;
    private static final int GIFT_UNSOUND = -3;
    private static final int GIFTS_AGREE = -2;

    /** Nodes of a walk: the rows, then the columns, then what lies outside of the table. */
    private static final int OUTSIDE = 2 * SIDE;
    private static final int NODES = 2 * SIDE + 1;
    private static final int ROW_BITS = (1 << SIDE) - 1;
    /** Above every sum of a row, and far enough from the end of int to be added to. */
    private static final int HUGE = 1 << 30;
    /** Far above what any run needs: each turn moves at least 1, along a shortest walk. */
    private static final int TURNS = 1000000;
    /** The class of the rows that lie in no block; blocks are numbered from 0. */
    private static final int NO_BLOCK = -1;
    private static final int NO_CLASS = -2;

    private int status = FINE;
    private final Table[] tables = new Table[TABLES];
    private final Reader reader = new Reader();
    private final Guard guard = new Guard();
    private final Rounder rounder = new Rounder();
    private final Leaf witnessLeaf = new Leaf();
    private final Leaf roundedLeaf = new Leaf();
    private int cutNodes = 0;
    private final Leaf[] gifts = new Leaf[GIFTS];
    private int given = 0;

    public CellKeeper() {
        for (int k = 0; k < TABLES; k++) {
            tables[k] = new Table();
        }
        for (int k = 0; k < GIFTS; k++) {
            gifts[k] = new Leaf();
        }
    }

    public int status() {
        return status;
    }

    public boolean open(int table, int rows, int columns) {
        if (table < 0 || table >= TABLES || tables[table].isOpen) {
            return settled(NO_TABLE);
        }
        if (rows < 1 || rows > SIDE || columns < 1 || columns > SIDE) {
            return settled(NO_PLACE);
        }
        tables[table].begin(rows, columns);
        return settled(FINE);
    }

    public boolean close(int table) {
        if (!settled(tableStatus(table))) {
            return false;
        }
        tables[table].isOpen = false;
        return true;
    }

    public boolean rule(int table, int which, int number) {
        if (!settled(tableStatus(table))) {
            return false;
        }
        if (which < 0 || which >= RULES_AT_MOST.length || number < 0 || number > RULES_AT_MOST[which]) {
            return settled(BAD_NUMBER);
        }
        tables[table].rules[which] = number;
        return true;
    }

    public boolean cell(int table, int row, int column, int kind, int number) {
        if (!settled(placeStatus(table, row, column))) {
            return false;
        }
        if (!canBeTold(kind, number)) {
            return settled(BAD_NUMBER);
        }
        tables[table].put(spotOf(row, column), kind == TOLD_MARK ? MARK : kind, number);
        return true;
    }

    public boolean giver(int table, int row, int column, int part) {
        if (!settled(amountStatus(table, row, column))) {
            return false;
        }
        if (part < 1 || part > MOST_PART) {
            return settled(BAD_NUMBER);
        }
        return settled(tables[table].addGiver(spotOf(row, column), part) ? FINE : TOO_MANY);
    }

    public boolean clear(int table, int row, int column) {
        if (!settled(filledStatus(table, row, column))) {
            return false;
        }
        tables[table].put(spotOf(row, column), NOTHING, 0);
        return true;
    }

    public boolean tear(int table, int row, int places) {
        if (!settled(rowStatus(table, row))) {
            return false;
        }
        int had = tables[table].places[row];
        if (had == 0) {
            return settled(ROW_MISSING);
        }
        if (places > had) {
            return settled(ROW_SHORT);
        }
        if (places < 0) {
            return settled(BAD_NUMBER);
        }
        tables[table].shorten(row, places);
        return true;
    }

    public int block(int table, int first, int last) {
        if (!settled(tableStatus(table))) {
            return NONE;
        }
        Table told = tables[table];
        if (first < 0 || last >= told.rows || last < first) {
            return refused(NO_PLACE);
        }
        if (told.blocks >= BLOCKS) {
            return refused(TOO_MANY);
        }
        if (!told.mayLie(first, last)) {
            return refused(BAD_BLOCK);
        }
        told.addBlock(first, last);
        return told.blocks;
    }

    public int kind(int table, int row, int column) {
        if (!settled(placeStatus(table, row, column))) {
            return NONE;
        }
        return tables[table].kind[spotOf(row, column)];
    }

    public int number(int table, int row, int column) {
        if (!settled(filledStatus(table, row, column))) {
            return NONE;
        }
        return tables[table].number[spotOf(row, column)];
    }

    public int givers(int table, int row, int column) {
        if (!settled(amountStatus(table, row, column))) {
            return NONE;
        }
        return tables[table].giversAt(spotOf(row, column));
    }

    public int part(int table, int row, int column, int k) {
        if (!settled(amountStatus(table, row, column))) {
            return NONE;
        }
        int spot = spotOf(row, column);
        if (k < 0 || k >= tables[table].giversAt(spot)) {
            return refused(BAD_NUMBER);
        }
        return tables[table].parts[spot * GIVERS + k];
    }

    public boolean hand(int table, int row, int column, boolean on) {
        if (!settled(guardableStatus(table, row, column))) {
            return false;
        }
        tables[table].tell(spotOf(row, column), SECRET_BY_HAND, on);
        return true;
    }

    public boolean keep(int table, int row, int column, boolean on) {
        if (!settled(guardableStatus(table, row, column))) {
            return false;
        }
        tables[table].tell(spotOf(row, column), TO_BE_KEPT, on);
        return true;
    }

    public int sound(int table, int row) {
        if (!settled(rowStatus(table, row))) {
            return NONE;
        }
        return tables[table].isSound(row) ? 1 : 0;
    }

    public int sum(int table, int row) {
        if (!settled(rowStatus(table, row))) {
            return NONE;
        }
        if (!tables[table].isSound(row)) {
            return refused(NOT_SOUND);
        }
        return tables[table].rowSum(row);
    }

    public int total(int table, int row, int column) {
        if (!settled(rowStatus(table, row))) {
            return NONE;
        }
        if (column < 0 || column >= tables[table].columns) {
            return refused(NO_PLACE);
        }
        if (!tables[table].isSound(row)) {
            return refused(NOT_SOUND);
        }
        return tables[table].classSum(row, column);
    }

    public int secret(int table, int row, int column) {
        if (!settled(soundCellStatus(table, row, column))) {
            return NONE;
        }
        return tables[table].reasons(spotOf(row, column));
    }

    public int kept(int table, int row, int column) {
        if (!settled(soundCellStatus(table, row, column))) {
            return NONE;
        }
        return tables[table].isKept(spotOf(row, column)) ? 1 : 0;
    }

    public int thousandths(int table, int row, int column) {
        if (!settled(cellStatus(table, row, column))) {
            return NONE;
        }
        if (tables[table].kind[spotOf(row, column)] != SHARE) {
            return refused(OTHER_KIND);
        }
        if (!tables[table].isSound(row)) {
            return refused(NOT_SOUND);
        }
        return thousandthsOf(tables[table].number[spotOf(row, column)], tables[table].rowSum(row));
    }

    public int least(int table, int row, int column) {
        return spanEnd(table, row, column, false);
    }

    public int greatest(int table, int row, int column) {
        return spanEnd(table, row, column, true);
    }

    public int safe(int table, int row, int column) {
        if (!settled(soundCellStatus(table, row, column))) {
            return NONE;
        }
        reader.load(tables[table]);
        return reader.isSafe(row, column) ? 1 : 0;
    }

    public int unsafe(int table) {
        if (!settled(tableStatus(table))) {
            return NONE;
        }
        reader.load(tables[table]);
        return reader.countUnsafe();
    }

    public int witness(int table, int row, int column, boolean greatest) {
        if (!settled(soundCellStatus(table, row, column))) {
            return NONE;
        }
        reader.load(tables[table]);
        reader.findFirst(row, column, greatest);
        reader.showValues(witnessLeaf);
        cutNodes = reader.cutOf(row, column, greatest);
        return witnessLeaf.at(row, column);
    }

    public int seen(int row, int column) {
        return witnessLeaf.at(row, column);
    }

    public int cut(boolean rows, int k) {
        int end = rows ? witnessLeaf.rows : witnessLeaf.columns;
        if (k < 0 || k >= end) {
            return NONE;
        }
        return (cutNodes >> (rows ? k : SIDE + k)) & 1;
    }

    public int plan(int table) {
        if (!settled(tableStatus(table))) {
            return NONE;
        }
        reader.load(tables[table]);
        int more = guard.followPlan(tables[table], reader);
        return more == NONE ? refused(NOT_SAFE) : more;
    }

    public int fewest(int table) {
        if (!settled(tableStatus(table))) {
            return NONE;
        }
        reader.load(tables[table]);
        guard.gather(tables[table], reader);
        if (guard.choices > CHOICES) {
            return refused(TOO_MANY);
        }
        int set = guard.cheapest(reader);
        if (set == NONE) {
            return refused(NOT_SAFE);
        }
        guard.tell(tables[table], set);
        return guard.prices[set];
    }

    public int cost(int table) {
        if (!settled(tableStatus(table))) {
            return NONE;
        }
        return tables[table].priceOfKept();
    }

    public int round(int table, int base) {
        if (!settled(tableStatus(table))) {
            return NONE;
        }
        if (base < LEAST_BASE || base > MOST_BASE) {
            return refused(BAD_NUMBER);
        }
        reader.load(tables[table]);
        return rounder.fill(reader, base, roundedLeaf);
    }

    public int rounded(int row, int column) {
        return roundedLeaf.at(row, column);
    }

    public int give(int table) {
        if (!settled(tableStatus(table))) {
            return NONE;
        }
        if (given >= GIFTS) {
            return refused(TOO_MANY);
        }
        reader.load(tables[table]);
        if (reader.countUnsafe() > 0) {
            return refused(NOT_SAFE);
        }
        reader.showOpenly(gifts[given]);
        given++;
        return given - 1;
    }

    public int gift(int k, int row, int column) {
        return isGift(k) ? gifts[k].at(row, column) : NONE;
    }

    public int agree(int a, int b) {
        return isGift(a) && isGift(b) ? gifts[a].firstUnlike(gifts[b]) : NONE;
    }

    private boolean isGift(int k) {
        return k >= 0 && k < given;
    }

    private int spanEnd(int table, int row, int column, boolean greatest) {
        if (!settled(soundCellStatus(table, row, column))) {
            return NONE;
        }
        reader.load(tables[table]);
        reader.moveToEnd(row, column, greatest);
        return reader.value[spotOf(row, column)];
    }

    private boolean settled(int found) {
        status = found;
        return found == FINE;
    }

    private int refused(int found) {
        status = found;
        return NONE;
    }

    private int tableStatus(int table) {
        return table >= 0 && table < TABLES && tables[table].isOpen ? FINE : NO_TABLE;
    }

    private int rowStatus(int table, int row) {
        int found = tableStatus(table);
        if (found != FINE) {
            return found;
        }
        return row >= 0 && row < tables[table].rows ? FINE : NO_PLACE;
    }

    private int placeStatus(int table, int row, int column) {
        int found = rowStatus(table, row);
        if (found != FINE) {
            return found;
        }
        if (column < 0 || column >= tables[table].columns) {
            return NO_PLACE;
        }
        int places = tables[table].places[row];
        if (places == 0) {
            return ROW_MISSING;
        }
        return column < places ? FINE : ROW_SHORT;
    }

    private int filledStatus(int table, int row, int column) {
        int found = placeStatus(table, row, column);
        if (found != FINE) {
            return found;
        }
        return tables[table].kind[spotOf(row, column)] == NOTHING ? PLACE_EMPTY : FINE;
    }

    private int cellStatus(int table, int row, int column) {
        int found = filledStatus(table, row, column);
        if (found != FINE) {
            return found;
        }
        return tables[table].kind[spotOf(row, column)] == MARK ? OTHER_KIND : FINE;
    }

    private int guardableStatus(int table, int row, int column) {
        int found = cellStatus(table, row, column);
        if (found != FINE) {
            return found;
        }
        return tables[table].kind[spotOf(row, column)] == ZERO ? OTHER_KIND : FINE;
    }

    private int amountStatus(int table, int row, int column) {
        int found = filledStatus(table, row, column);
        if (found != FINE) {
            return found;
        }
        return tables[table].kind[spotOf(row, column)] == AMOUNT ? FINE : OTHER_KIND;
    }

    private int soundCellStatus(int table, int row, int column) {
        int found = cellStatus(table, row, column);
        if (found != FINE) {
            return found;
        }
        return tables[table].isSound(row) ? FINE : NOT_SOUND;
    }

    private static boolean canBeTold(int kind, int number) {
        switch (kind) {
            case TOLD_MARK:
                return number >= 1 && number <= MOST_MARK;
            case COUNT:
            case SHARE:
                return number >= 0 && number <= MOST_NUMBER;
            case AMOUNT:
            case ZERO:
                return number == 0;
            default:
                return false;
        }
    }

    private static int spotOf(int row, int column) {
        return row * SIDE + column;
    }

    private static int thousandthsOf(int number, int whole) {
        return whole <= 0 ? 0 : (int) (1000L * number / whole);
    }

    /** What was told of one table. */
    private static final class Table {
        boolean isOpen = false;
        int rows = 0;
        int columns = 0;
        int blocks = 0;
        final int[] places = new int[SIDE];
        final int[] kind = new int[PLACES];
        final int[] number = new int[PLACES];
        final int[] told = new int[PLACES];
        /** Of each place the parts in the order they were told, 0 behind the last one. */
        final int[] parts = new int[PLACES * GIVERS];
        final int[] rules = new int[RULES_AT_FIRST.length];
        final int[] blockFirst = new int[BLOCKS];
        final int[] blockLast = new int[BLOCKS];

        void begin(int newRows, int newColumns) {
            isOpen = true;
            rows = newRows;
            columns = newColumns;
            blocks = 0;
            Arrays.fill(places, newColumns);
            System.arraycopy(RULES_AT_FIRST, 0, rules, 0, RULES_AT_FIRST.length);
            for (int row = 0; row < newRows; row++) {
                for (int column = 0; column < newColumns; column++) {
                    put(spotOf(row, column), NOTHING, 0);
                }
            }
        }

        void put(int spot, int newKind, int newNumber) {
            kind[spot] = newKind;
            number[spot] = newNumber;
            told[spot] = 0;
            for (int k = 0; k < GIVERS; k++) {
                parts[spot * GIVERS + k] = 0;
            }
        }

        void tell(int spot, int what, boolean on) {
            told[spot] = on ? told[spot] | what : told[spot] & ~what;
        }

        boolean wasTold(int spot, int what) {
            return (told[spot] & what) != 0;
        }

        int giversAt(int spot) {
            int count = 0;
            for (int k = 0; k < GIVERS; k++) {
                count += parts[spot * GIVERS + k] > 0 ? 1 : 0;
            }
            return count;
        }

        boolean addGiver(int spot, int newPart) {
            int had = giversAt(spot);
            if (had >= GIVERS) {
                return false;
            }
            parts[spot * GIVERS + had] = newPart;
            number[spot] += newPart;
            return true;
        }

        void shorten(int row, int newPlaces) {
            for (int column = newPlaces; column < places[row]; column++) {
                put(spotOf(row, column), NOTHING, 0);
            }
            places[row] = newPlaces;
        }

        boolean mayLie(int first, int last) {
            for (int k = 0; k < blocks; k++) {
                boolean apart = last < blockFirst[k] || first > blockLast[k];
                boolean within = first >= blockFirst[k] && last <= blockLast[k];
                boolean around = first <= blockFirst[k] && last >= blockLast[k];
                boolean same = within && around;
                if (same || !(apart || within || around)) {
                    return false;
                }
            }
            return true;
        }

        void addBlock(int first, int last) {
            blockFirst[blocks] = first;
            blockLast[blocks] = last;
            blocks++;
        }

        int classOf(int row) {
            int found = NO_BLOCK;
            int size = SIDE + 1;
            for (int k = 0; k < blocks; k++) {
                boolean has = blockFirst[k] <= row && row <= blockLast[k];
                if (has && blockLast[k] - blockFirst[k] < size) {
                    found = k;
                    size = blockLast[k] - blockFirst[k];
                }
            }
            return found;
        }

        boolean isSound(int row) {
            if (places[row] < columns) {
                return false;
            }
            for (int column = 0; column < columns; column++) {
                int has = kind[spotOf(row, column)];
                if (has == NOTHING || has == MARK) {
                    return false;
                }
            }
            return true;
        }

        int rowSum(int row) {
            int whole = 0;
            for (int column = 0; column < columns; column++) {
                whole += number[spotOf(row, column)];
            }
            return whole;
        }

        int classSum(int row, int column) {
            int wanted = classOf(row);
            int whole = 0;
            for (int other = 0; other < rows; other++) {
                if (classOf(other) == wanted && isSound(other)) {
                    whole += number[spotOf(other, column)];
                }
            }
            return whole;
        }

        /** Of a cell of a sound row. */
        int reasons(int spot) {
            int found = wasTold(spot, SECRET_BY_HAND) ? 8 : 0;
            int has = number[spot];
            if (kind[spot] == COUNT && has >= 1 && has <= rules[THRESHOLD]) {
                found += 1;
            }
            if (kind[spot] == AMOUNT && has > 0) {
                if (giversAt(spot) < rules[WANTED]) {
                    found += 2;
                }
                if (100 * leftByTwo(spot) < rules[PERCENT] * has) {
                    found += 4;
                }
            }
            return found;
        }

        private int leftByTwo(int spot) {
            int first = 0;
            int second = 0;
            for (int k = 0; k < GIVERS; k++) {
                int part = parts[spot * GIVERS + k];
                if (part > first) {
                    second = first;
                    first = part;
                } else if (part > second) {
                    second = part;
                }
            }
            return number[spot] - first - second;
        }

        boolean isKept(int spot) {
            return wasTold(spot, TO_BE_KEPT) || reasons(spot) != 0;
        }

        int priceOf(int spot) {
            return rules[COSTS] == 0 ? 1 : number[spot] + 1;
        }

        int priceOfKept() {
            int whole = 0;
            for (int row = 0; row < rows; row++) {
                boolean counts = isSound(row);
                for (int column = 0; column < columns && counts; column++) {
                    int spot = spotOf(row, column);
                    if (wasTold(spot, TO_BE_KEPT) && reasons(spot) == 0) {
                        whole += priceOf(spot);
                    }
                }
            }
            return whole;
        }
    }

    /** Numbers of a table as they were at one time, with negative ones where none is shown. */
    private static final class Leaf {
        int rows = 0;
        int columns = 0;
        final int[] shown = new int[PLACES];

        int at(int row, int column) {
            boolean has = row >= 0 && row < rows && column >= 0 && column < columns;
            return has ? shown[spotOf(row, column)] : NONE;
        }

        int firstUnlike(Leaf other) {
            int rowsOfBoth = Math.min(rows, other.rows);
            int columnsOfBoth = Math.min(columns, other.columns);
            for (int row = 0; row < rowsOfBoth; row++) {
                for (int column = 0; column < columnsOfBoth; column++) {
                    int mine = shown[spotOf(row, column)];
                    int theirs = other.shown[spotOf(row, column)];
                    if (mine >= 0 && theirs >= 0 && mine != theirs) {
                        return 100 * row + column;
                    }
                }
            }
            return GIFTS_AGREE;
        }
    }

    /** Nodes with steps between them, each node's steps as bits, and the shortest way from node to node. */
    private static final class Walk {
        final int[] steps = new int[NODES];
        final int[] before = new int[NODES];
        final int[] queue = new int[NODES];
        int reached = 0;

        void wipe() {
            Arrays.fill(steps, 0);
        }

        void join(int one, int other, boolean forth, boolean back) {
            int oneBit = 1 << one;
            int otherBit = 1 << other;
            steps[one] = forth ? steps[one] | otherBit : steps[one] & ~otherBit;
            steps[other] = back ? steps[other] | oneBit : steps[other] & ~oneBit;
        }

        /** Whether steps lead there; before[] then tells the way, backwards. */
        boolean leads(int from, int to) {
            int goal = 1 << to;
            reached = 1 << from;
            queue[0] = from;
            int filled = 1;
            for (int next = 0; next < filled && next < NODES; next++) {
                int node = queue[next];
                int fresh = steps[node] & ~reached;
                if ((fresh & goal) != 0) {
                    before[to] = node;
                    return true;
                }
                reached |= fresh;
                // Only the outside has steps to both sides, so a row can begin behind all rows.
                int first = (fresh & ROW_BITS) == 0 ? SIDE : 0;
                for (int other = first; other < NODES && fresh >> other != 0; other++) {
                    if (((fresh >> other) & 1) != 0 && filled < NODES) {
                        before[other] = node;
                        queue[filled] = other;
                        filled++;
                    }
                }
            }
            return false;
        }

        /** All nodes that steps lead to from one, as bits. */
        int allFrom(int from) {
            leads(from, from);
            return reached;
        }
    }

    /** What a reader can reckon: a table that agrees, which is moved to where its cells' ends are. */
    private static final class Reader {
        int rows = 0;
        int columns = 0;
        private int down = 0;
        private int up = 0;
        private int entered = NO_CLASS;
        private final Walk walk = new Walk();
        final boolean[] sound = new boolean[SIDE];
        final int[] classes = new int[SIDE];
        final int[] kind = new int[PLACES];
        final int[] number = new int[PLACES];
        final int[] secret = new int[PLACES];
        final boolean[] kept = new boolean[PLACES];
        final int[] value = new int[PLACES];
        private final int[] lowest = new int[PLACES];
        private final int[] highest = new int[PLACES];

        void load(Table table) {
            rows = table.rows;
            columns = table.columns;
            down = table.rules[DOWN];
            up = table.rules[UP];
            entered = NO_CLASS;
            for (int row = 0; row < rows; row++) {
                sound[row] = table.isSound(row);
                classes[row] = table.classOf(row);
                if (sound[row]) {
                    loadRow(table, row);
                } else {
                    blankRow(row);
                }
            }
        }

        private void loadRow(Table table, int row) {
            int whole = table.rowSum(row);
            for (int column = 0; column < columns; column++) {
                int spot = spotOf(row, column);
                kind[spot] = table.kind[spot];
                number[spot] = table.number[spot];
                value[spot] = table.number[spot];
                secret[spot] = table.reasons(spot);
                kept[spot] = secret[spot] != 0 || table.wasTold(spot, TO_BE_KEPT);
                bound(spot, whole);
            }
        }

        private void blankRow(int row) {
            for (int column = 0; column < columns; column++) {
                int spot = spotOf(row, column);
                kind[spot] = NOTHING;
                secret[spot] = 0;
                kept[spot] = false;
            }
        }

        /** A share of nothing is 0 thousandths whatever its number, and so has no bound of its own. */
        private void bound(int spot, int whole) {
            lowest[spot] = 0;
            highest[spot] = HUGE;
            if (kind[spot] == SHARE && whole > 0) {
                long thousandths = thousandthsOf(number[spot], whole);
                lowest[spot] = (int) ((thousandths * whole + 999) / 1000);
                highest[spot] = (int) (((thousandths + 1) * whole - 1) / 1000);
            }
        }

        /** Back to the true table, with the secrets alone kept. */
        void keepSecretsAlone() {
            entered = NO_CLASS;
            for (int row = 0; row < rows; row++) {
                for (int column = 0; column < columns; column++) {
                    int spot = spotOf(row, column);
                    kept[spot] = secret[spot] != 0;
                    value[spot] = number[spot];
                }
            }
        }

        void alsoKeep(int spot) {
            kept[spot] = true;
            entered = NO_CLASS;
        }

        /** Columns are summed by class, so the steps are those of one class; rows before the first stay as they are. */
        private void enter(int wanted, int first) {
            walk.wipe();
            entered = first == 0 ? wanted : NO_CLASS;
            for (int row = first; row < rows; row++) {
                if (sound[row] && classes[row] == wanted) {
                    for (int column = 0; column < columns; column++) {
                        refresh(row, column);
                    }
                }
            }
        }

        private void refresh(int row, int column) {
            int spot = spotOf(row, column);
            boolean more = kept[spot] && value[spot] < highest[spot];
            boolean less = kept[spot] && value[spot] > lowest[spot];
            walk.join(row, SIDE + column, more, less);
        }

        /** Moves a kept cell towards what is wanted, as far as it goes; it gives no steps from then on. */
        private void draw(int row, int column, int wanted) {
            int spot = spotOf(row, column);
            int columnNode = SIDE + column;
            walk.join(row, columnNode, false, false);
            boolean falls = wanted < value[spot];
            int from = falls ? row : columnNode;
            int to = falls ? columnNode : row;
            for (int turn = 0; turn < TURNS && value[spot] != wanted; turn++) {
                if (!walk.leads(from, to)) {
                    return;
                }
                int amount = Math.min(Math.abs(wanted - value[spot]), room(from, to));
                shift(from, to, amount);
                value[spot] += falls ? -amount : amount;
            }
        }

        private int room(int from, int to) {
            int found = HUGE;
            int node = to;
            for (int k = 0; k < NODES && node != from; k++) {
                int last = walk.before[node];
                if (last < SIDE) {
                    int spot = spotOf(last, node - SIDE);
                    found = Math.min(found, highest[spot] - value[spot]);
                } else {
                    int spot = spotOf(node, last - SIDE);
                    found = Math.min(found, value[spot] - lowest[spot]);
                }
                node = last;
            }
            return found;
        }

        private void shift(int from, int to, int amount) {
            int node = to;
            for (int k = 0; k < NODES && node != from; k++) {
                int last = walk.before[node];
                if (last < SIDE) {
                    value[spotOf(last, node - SIDE)] += amount;
                    refresh(last, node - SIDE);
                } else {
                    value[spotOf(node, last - SIDE)] -= amount;
                    refresh(node, last - SIDE);
                }
                node = last;
            }
        }

        void moveToEnd(int row, int column, boolean greatest) {
            int spot = spotOf(row, column);
            if (kept[spot]) {
                enter(classes[row], 0);
                draw(row, column, greatest ? highest[spot] : lowest[spot]);
                entered = NO_CLASS;
            }
        }

        /** Moves the cell no farther than needed: any table that agrees is as good a start for the next one. */
        boolean isSafe(int row, int column) {
            int spot = spotOf(row, column);
            int low = Math.max(0, number[spot] - down);
            int high = number[spot] + up;
            if (!kept[spot]) {
                return low == number[spot] && high == number[spot];
            }
            if (low < lowest[spot] || high > highest[spot]) {
                return false;
            }
            if (entered != classes[row]) {
                enter(classes[row], 0);
            }
            boolean lowEnough = value[spot] <= low;
            if (!lowEnough) {
                draw(row, column, low);
                lowEnough = value[spot] <= low;
            }
            boolean highEnough = lowEnough && value[spot] >= high;
            if (lowEnough && !highEnough) {
                draw(row, column, high);
                highEnough = value[spot] >= high;
            }
            refresh(row, column);
            return highEnough;
        }

        int countUnsafe() {
            int found = 0;
            for (int row = 0; row < rows; row++) {
                for (int column = 0; column < columns; column++) {
                    if (secret[spotOf(row, column)] != 0 && !isSafe(row, column)) {
                        found++;
                    }
                }
            }
            return found;
        }

        /** Cells are made least one by one, so that none moves one that came before it. */
        void findFirst(int row, int column, boolean greatest) {
            moveToEnd(row, column, greatest);
            for (int i = 0; i < rows; i++) {
                if (!sound[i]) {
                    continue;
                }
                enter(classes[i], i);
                walk.join(row, SIDE + column, false, false);
                for (int j = 0; j < columns; j++) {
                    boolean held = i == row && j == column;
                    if (kept[spotOf(i, j)] && !held) {
                        draw(i, j, lowest[spotOf(i, j)]);
                    }
                }
            }
            entered = NO_CLASS;
        }

        int cutOf(int row, int column, boolean greatest) {
            int from = greatest ? SIDE + column : row;
            if (!kept[spotOf(row, column)]) {
                return 1 << from;
            }
            enter(classes[row], 0);
            walk.join(row, SIDE + column, false, false);
            entered = NO_CLASS;
            return walk.allFrom(from);
        }

        void showValues(Leaf leaf) {
            leaf.rows = rows;
            leaf.columns = columns;
            for (int row = 0; row < rows; row++) {
                for (int column = 0; column < columns; column++) {
                    int spot = spotOf(row, column);
                    leaf.shown[spot] = sound[row] ? value[spot] : NONE;
                }
            }
        }

        void showOpenly(Leaf gift) {
            gift.rows = rows;
            gift.columns = columns;
            for (int row = 0; row < rows; row++) {
                for (int column = 0; column < columns; column++) {
                    int spot = spotOf(row, column);
                    int told = kept[spot] ? GIFT_KEPT : number[spot];
                    gift.shown[spot] = sound[row] ? told : GIFT_UNSOUND;
                }
            }
        }
    }

    /** Finds what is to be kept beside the secrets. */
    private static final class Guard {
        private final boolean[] planned = new boolean[PLACES];
        private final int[] choice = new int[CHOICES];
        private final int[] choicePrice = new int[CHOICES];
        final int[] prices = new int[1 << CHOICES];
        int choices = 0;
        private int hardRow = NONE;
        private int hardColumn = NONE;
        private int bestRow = NONE;
        private int bestColumn = NONE;

        /** How many cells more are kept by the plan, NONE if it fails. */
        int followPlan(Table table, Reader reader) {
            forgetPlan();
            int more = 0;
            for (int row = 0; row < reader.rows; row++) {
                for (int column = 0; column < reader.columns; column++) {
                    // What is safe stays so when more is kept, so none has to be looked at again.
                    boolean done = reader.secret[spotOf(row, column)] == 0 || reader.isSafe(row, column);
                    for (int turn = 0; turn < PLACES && !done; turn++) {
                        findThree(table, reader, row, column);
                        if (bestRow == NONE) {
                            return NONE;
                        }
                        more += keepThree(reader, row, column);
                        done = reader.isSafe(row, column);
                    }
                }
            }
            tellPlanned(table);
            return more;
        }

        private void forgetPlan() {
            for (int spot = 0; spot < PLACES; spot++) {
                planned[spot] = false;
            }
        }

        private void tellPlanned(Table table) {
            for (int spot = 0; spot < PLACES; spot++) {
                if (planned[spot]) {
                    table.tell(spot, TO_BE_KEPT, true);
                }
            }
        }

        private void findThree(Table table, Reader reader, int row, int column) {
            int best = HUGE;
            bestRow = NONE;
            bestColumn = NONE;
            for (int q = 0; q < reader.rows; q++) {
                if (q == row || !reader.sound[q] || reader.classes[q] != reader.classes[row]) {
                    continue;
                }
                int sideOne = priceToKeep(table, reader, spotOf(q, column));
                for (int d = 0; d < reader.columns; d++) {
                    if (d == column) {
                        continue;
                    }
                    int sideTwo = priceToKeep(table, reader, spotOf(row, d));
                    int corner = priceToKeep(table, reader, spotOf(q, d));
                    boolean can = sideOne != NONE && sideTwo != NONE && corner != NONE;
                    int price = sideOne + sideTwo + corner;
                    // A price of 0 says that all three are kept.
                    if (can && price > 0 && price < best) {
                        best = price;
                        bestRow = q;
                        bestColumn = d;
                    }
                }
            }
        }

        private int priceToKeep(Table table, Reader reader, int spot) {
            if (reader.kind[spot] == ZERO) {
                return NONE;
            }
            return reader.kept[spot] ? 0 : table.priceOf(spot);
        }

        private int keepThree(Reader reader, int row, int column) {
            return keepOne(reader, spotOf(row, bestColumn))
                    + keepOne(reader, spotOf(bestRow, column))
                    + keepOne(reader, spotOf(bestRow, bestColumn));
        }

        private int keepOne(Reader reader, int spot) {
            planned[spot] = true;
            if (reader.kept[spot]) {
                return 0;
            }
            reader.alsoKeep(spot);
            return 1;
        }

        /** Finds the cells that may be chosen; beyond the limit they are counted alone. */
        void gather(Table table, Reader reader) {
            choices = 0;
            for (int row = 0; row < reader.rows; row++) {
                for (int column = 0; column < reader.columns; column++) {
                    int spot = spotOf(row, column);
                    int has = reader.kind[spot];
                    boolean may = has != NOTHING && has != ZERO && reader.secret[spot] == 0;
                    if (may && choices < CHOICES) {
                        choice[choices] = spot;
                        choicePrice[choices] = table.priceOf(spot);
                    }
                    choices += may ? 1 : 0;
                }
            }
        }

        /** The first cell's bit is the highest, so that of two sets the first is the greater number. */
        private int bitOf(int k) {
            return 1 << (choices - 1 - k);
        }

        private void priceSets(int sets) {
            for (int set = 0; set < sets; set++) {
                prices[set] = 0;
                for (int k = 0; k < choices; k++) {
                    if ((set & bitOf(k)) != 0) {
                        prices[set] += choicePrice[k];
                    }
                }
            }
        }

        /** The set that guards all secrets at the least price, NONE if there is none. */
        int cheapest(Reader reader) {
            int sets = 1 << choices;
            hardRow = NONE;
            hardColumn = NONE;
            // Where all of them are too few, each part of them is.
            if (!guards(reader, sets - 1)) {
                return NONE;
            }
            priceSets(sets);
            int set = nextSet(sets, NONE);
            for (int turn = 0; turn < sets && set != NONE; turn++) {
                if (guards(reader, set)) {
                    return set;
                }
                set = nextSet(sets, set);
            }
            return NONE;
        }

        /** The set that comes next after one by price, then by its first cell; the first of all after NONE. */
        private int nextSet(int sets, int last) {
            int found = NONE;
            for (int set = sets - 1; set >= 0; set--) {
                if (isBefore(last, set) && (found == NONE || prices[set] < prices[found])) {
                    found = set;
                }
            }
            return found;
        }

        private boolean isBefore(int one, int other) {
            if (one == NONE || prices[one] != prices[other]) {
                return one == NONE || prices[one] < prices[other];
            }
            return one > other;
        }

        private boolean guards(Reader reader, int set) {
            reader.keepSecretsAlone();
            for (int k = 0; k < choices; k++) {
                if ((set & bitOf(k)) != 0) {
                    reader.alsoKeep(choice[k]);
                }
            }
            // What failed the set before most often fails this one too.
            if (hardRow != NONE && !reader.isSafe(hardRow, hardColumn)) {
                return false;
            }
            for (int row = 0; row < reader.rows; row++) {
                for (int column = 0; column < reader.columns; column++) {
                    if (reader.secret[spotOf(row, column)] != 0 && !reader.isSafe(row, column)) {
                        hardRow = row;
                        hardColumn = column;
                        return false;
                    }
                }
            }
            return true;
        }

        void tell(Table table, int set) {
            for (int spot = 0; spot < PLACES; spot++) {
                table.tell(spot, TO_BE_KEPT, false);
            }
            for (int k = 0; k < choices; k++) {
                if ((set & bitOf(k)) != 0) {
                    table.tell(choice[k], TO_BE_KEPT, true);
                }
            }
        }
    }

    /** Rounds a table class by class: which cells go up is a flow of ones from rows to columns. */
    private static final class Rounder {
        private final Walk walk = new Walk();
        private final int[] over = new int[PLACES];
        private final boolean[] isUp = new boolean[PLACES];
        private final int[] overSum = new int[NODES];
        private final int[] ups = new int[NODES];
        private final int[] fewestUps = new int[NODES];
        private final int[] mostUps = new int[NODES];
        private final boolean[] inClass = new boolean[SIDE];

        /** How many cells are above. */
        int fill(Reader reader, int base, Leaf leaf) {
            for (int row = 0; row < reader.rows; row++) {
                if (reader.sound[row] && isFirstOfClass(reader, row)) {
                    roundClass(reader, reader.classes[row], base);
                }
            }
            return write(reader, base, leaf);
        }

        private int write(Reader reader, int base, Leaf leaf) {
            leaf.rows = reader.rows;
            leaf.columns = reader.columns;
            int above = 0;
            for (int row = 0; row < reader.rows; row++) {
                for (int column = 0; column < reader.columns; column++) {
                    int spot = spotOf(row, column);
                    boolean goesUp = reader.sound[row] && isUp[spot];
                    int multiple = reader.number[spot] - over[spot] + (goesUp ? base : 0);
                    leaf.shown[spot] = reader.sound[row] ? multiple : NONE;
                    above += goesUp ? 1 : 0;
                }
            }
            return above;
        }

        private boolean isFirstOfClass(Reader reader, int row) {
            for (int other = 0; other < row; other++) {
                if (reader.sound[other] && reader.classes[other] == reader.classes[row]) {
                    return false;
                }
            }
            return true;
        }

        private void roundClass(Reader reader, int wanted, int base) {
            walk.wipe();
            Arrays.fill(ups, 0);
            Arrays.fill(overSum, 0);
            for (int row = 0; row < reader.rows; row++) {
                inClass[row] = reader.sound[row] && reader.classes[row] == wanted;
                if (inClass[row]) {
                    layRow(reader, row, base);
                }
            }
            for (int node = 0; node < OUTSIDE; node++) {
                fewestUps[node] = base > 0 ? overSum[node] / base : 0;
                mostUps[node] = base > 0 ? (overSum[node] + base - 1) / base : 0;
                refreshNode(node);
            }
            reachFewest();
            for (int row = 0; row < reader.rows; row++) {
                if (inClass[row]) {
                    bringDown(row, reader.columns);
                }
            }
        }

        /** All cells are below at first. */
        private void layRow(Reader reader, int row, int base) {
            for (int column = 0; column < reader.columns; column++) {
                int spot = spotOf(row, column);
                over[spot] = base > 0 ? reader.number[spot] % base : 0;
                isUp[spot] = false;
                overSum[row] += over[spot];
                overSum[SIDE + column] += over[spot];
                if (over[spot] > 0) {
                    walk.join(row, SIDE + column, true, false);
                }
            }
        }

        private void refreshNode(int node) {
            boolean more = ups[node] < mostUps[node];
            boolean less = ups[node] > fewestUps[node];
            if (node < SIDE) {
                walk.join(OUTSIDE, node, more, less);
            } else {
                walk.join(node, OUTSIDE, more, less);
            }
        }

        /** No way lessens a sum that is still too small, so each one that is mended stays mended. */
        private void reachFewest() {
            for (int node = 0; node < OUTSIDE; node++) {
                int from = node < SIDE ? node : OUTSIDE;
                int to = node < SIDE ? OUTSIDE : node;
                for (int turn = 0; turn < SIDE && ups[node] < fewestUps[node]; turn++) {
                    if (!walk.leads(from, to)) {
                        break;
                    }
                    shift(from, to);
                    ups[node]++;
                    refreshNode(node);
                }
            }
        }

        private void bringDown(int row, int columns) {
            for (int column = 0; column < columns; column++) {
                int spot = spotOf(row, column);
                if (over[spot] == 0) {
                    continue;
                }
                walk.join(row, SIDE + column, false, false);
                if (isUp[spot] && walk.leads(row, SIDE + column)) {
                    shift(row, SIDE + column);
                    isUp[spot] = false;
                }
            }
        }

        private void shift(int from, int to) {
            int node = to;
            for (int k = 0; k < NODES && node != from; k++) {
                int last = walk.before[node];
                turn(last, node);
                node = last;
            }
        }

        private void turn(int from, int to) {
            if (from == OUTSIDE) {
                ups[to] += to < SIDE ? 1 : -1;
                refreshNode(to);
            } else if (to == OUTSIDE) {
                ups[from] += from < SIDE ? -1 : 1;
                refreshNode(from);
            } else {
                boolean rises = from < SIDE;
                int row = rises ? from : to;
                int columnNode = rises ? to : from;
                isUp[spotOf(row, columnNode - SIDE)] = rises;
                walk.join(row, columnNode, !rises, rises);
            }
        }
    }
}
