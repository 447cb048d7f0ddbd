import java.util.Arrays;

/**
 * A finder of keys: tables whose cells may be missing, laws about their columns, what follows from
 * laws, and parts of a table. All room is made in the constructor; no call makes an object.
 */
public final class KeyFinder {
    public static final int UNKNOWN = -1, OUTSIDE = -2, STATE = -3, FULL = -4, NONE = -9;
    public static final long LOST = Long.MIN_VALUE;

    private static final int NULL = 1, CAST = 2, INDEX = 3, SIZE = 4;
    private static final int FAULT_BASE = -10;

    private static final int MOST_TABLES = 4, MOST_COLUMNS = 8, MOST_ROWS = 24;
    private static final int MOST_LAWS = 40, MOST_PARTS = 12;
    private static final int LANES = 6, KINDS = 6, SETS = 256;
    private static final int MOST_PAIRS = MOST_ROWS * (MOST_ROWS - 1) / 2;
    // Of sets of seven columns at most 35, of eight at most 70, stand without one within another.
    private static final int MOST_FOUND = MOST_COLUMNS * 35, MOST_KEYS = 70;
    private static final int MOST_COVER = MOST_LAWS * MOST_COLUMNS;
    private static final int UNTOLD = -1;

    private static final int BYTES = 0, SHORTS = 1, CHARS = 2, INTS = 3, DOUBLES = 5;
    private static final int TELLS = 0, KEY = 1, SEVERAL = 2, NEVER = 3, ORDER = 4, WITHIN = 5;

    private final Table[] tables;
    private final Laws laws;
    private final Judge judge;
    private final Search search;
    private final Theory theory;
    private final Cover lawCover;
    private final Parts parts;
    private int latestFault;

    public KeyFinder() {
        tables = new Table[MOST_TABLES];
        for (int t = 0; t < MOST_TABLES; t++) {
            tables[t] = new Table();
        }
        laws = new Laws();
        judge = new Judge();
        search = new Search();
        theory = new Theory();
        lawCover = new Cover(theory);
        parts = new Parts(theory);
        latestFault = 0;
    }

    // ---- 1 tables

    public int table(int t, boolean areLike) {
        if (!isTableNumber(t)) {
            return UNKNOWN;
        }
        tables[t].open(areLike);
        return 1;
    }

    public int drop(int t) {
        if (!isTableNumber(t)) {
            return UNKNOWN;
        }
        if (!tables[t].there) {
            return 0;
        }
        tables[t].there = false;
        return 1;
    }

    public int column(int t, int lane) {
        Table table = standing(t);
        if (table == null) {
            return UNKNOWN;
        }
        if (!isLane(lane)) {
            return OUTSIDE;
        }
        if (table.rowCount > 0) {
            return STATE;
        }
        if (table.columnCount >= MOST_COLUMNS) {
            return FULL;
        }
        return table.addColumn(lane);
    }

    public int rows(int t, int n) {
        latestFault = 0;
        Table table = standing(t);
        if (table == null) {
            return UNKNOWN;
        }
        if (n > MOST_ROWS) {
            return OUTSIDE;
        }
        if (n < 0) {
            return faulted(SIZE);
        }
        if (n > MOST_ROWS - table.rowCount) {
            return FULL;
        }
        return table.addRows(n);
    }

    public int put(int t, int row, int column, long v) {
        latestFault = 0;
        if (!isTableNumber(t)) {
            return UNKNOWN;
        }
        Table table = tables[t];
        int fault = table.faultOf(row, column);
        if (fault != 0) {
            return faulted(fault);
        }
        table.store(row, column, v);
        return 1;
    }

    public int miss(int t, int row, int column) {
        latestFault = 0;
        if (!isTableNumber(t)) {
            return UNKNOWN;
        }
        Table table = tables[t];
        int fault = table.faultOf(row, column);
        if (fault != 0) {
            return faulted(fault);
        }
        return table.erase(row, column) ? 1 : 0;
    }

    public long at(int t, int row, int column, int lane) {
        latestFault = 0;
        if (!isTableNumber(t) || !isLane(lane)) {
            return LOST;
        }
        Table table = tables[t];
        latestFault = table.faultOfReading(row, column, lane);
        if (latestFault != 0 || !table.hasValue(row, column)) {
            return LOST;
        }
        return table.valueOf(row, column);
    }

    public int copy(int t, int from, int i, int to, int j, int n) {
        latestFault = 0;
        Table table = standing(t);
        if (table == null || !table.hasColumn(from) || !table.hasColumn(to)) {
            return UNKNOWN;
        }
        if (table.lanes[from] != table.lanes[to]) {
            return STATE;
        }
        if (i < 0 || j < 0 || n < 0 || i > table.rowCount - n || j > table.rowCount - n) {
            return faulted(INDEX);
        }
        table.moveCells(from, i, to, j, n);
        return n;
    }

    public int about(int t, int what) {
        Table table = standing(t);
        if (table == null) {
            return UNKNOWN;
        }
        if (what < 0 || what >= 4 + table.columnCount) {
            return OUTSIDE;
        }
        switch (what) {
            case 0:
                return table.columnCount;
            case 1:
                return table.rowCount;
            case 2:
                return table.takesMissingAsLike ? 1 : 0;
            case 3:
                return table.missingCells();
            default:
                return table.lanes[what - 4];
        }
    }

    public int like(int t, int i, int j, int set) {
        Table table = standing(t);
        if (table == null || !table.hasRow(i) || !table.hasRow(j)) {
            return UNKNOWN;
        }
        if (!isSet(set)) {
            return OUTSIDE;
        }
        return table.areRowsLike(i, j, set & table.columnSet()) ? 1 : 0;
    }

    // ---- 2 laws

    public int law(int kind, int x, int y) {
        if (!isLawAsTold(kind, x, y)) {
            return OUTSIDE;
        }
        if (laws.count >= MOST_LAWS) {
            return FULL;
        }
        // Y of a KEY and of a NEVER must not depend on a y that nobody may look at.
        int number = laws.add(kind, x, looksAtY(kind) ? y : 0);
        renewForce();
        return number;
    }

    public int unlaw(int law) {
        if (!laws.has(law)) {
            return UNKNOWN;
        }
        if (laws.dropped[law]) {
            return 0;
        }
        laws.dropped[law] = true;
        renewForce();
        return 1;
    }

    public int say(int law, int as, int what) {
        latestFault = 0;
        if (!laws.has(law)) {
            return UNKNOWN;
        }
        if (as < 0 || as >= KINDS || what < 0 || what > 2) {
            return OUTSIDE;
        }
        if (!isTakenAs(laws.kinds[law], as)) {
            return faulted(CAST);
        }
        if (what == 2) {
            return laws.dropped[law] ? 1 : 0;
        }
        return what == 0 ? laws.xs[law] : laws.ys[law];
    }

    public int hold(int t, int law) {
        Table table = standing(t);
        if (table == null || !laws.has(law)) {
            return UNKNOWN;
        }
        int kind = laws.kinds[law];
        int x = laws.xs[law];
        int y = laws.ys[law];
        if (laws.dropped[law] || !table.hasColumns(x)) {
            return STATE;
        }
        boolean toldColumns = kind == TELLS || kind == SEVERAL || kind == ORDER;
        if (toldColumns && !table.hasColumns(y)) {
            return STATE;
        }
        Table other = kind == WITHIN ? standing(y) : table;
        if (other == null || !other.hasColumns(x)) {
            return STATE;
        }
        return judge.holds(table, kind, x, y, other) ? 1 : 0;
    }

    public int broken(int what) {
        if (what < 0 || what > 1) {
            return OUTSIDE;
        }
        return what == 0 ? judge.brokenRow : judge.brokenOther;
    }

    public int find(int t) {
        Table table = standing(t);
        if (table == null) {
            return UNKNOWN;
        }
        search.run(table);
        return search.count;
    }

    public int found(int i, int what) {
        if (i < 0 || i >= search.count) {
            return UNKNOWN;
        }
        if (what < 0 || what > 1) {
            return OUTSIDE;
        }
        return what == 0 ? search.xs[i] : search.columns[i];
    }

    public int misses(int t, int x, int y) {
        int refusal = refusalOfSets(t, x, y);
        return refusal != 0 ? refusal : tables[t].rowsToLeaveOut(x, y);
    }

    public int twice(int t, int x, int y) {
        int refusal = refusalOfSets(t, x, y);
        return refusal != 0 ? refusal : tables[t].rowsSeenBefore(x | y);
    }

    // ---- 3 what follows

    public int width(int n) {
        if (n < 1 || n > MOST_COLUMNS) {
            return OUTSIDE;
        }
        int before = theory.columnCount;
        theory.widen(n);
        renewForce();
        parts.count = 0;
        return before;
    }

    public int closure(int x) {
        return theory.isWithinAll(x) ? theory.closureOf(x) : OUTSIDE;
    }

    public int follows(int x, int y) {
        if (!theory.isWithinAll(x) || !theory.isWithinAll(y)) {
            return OUTSIDE;
        }
        if (!isWithin(y, theory.closureOf(x))) {
            return 0;
        }
        theory.noteSteps(x, y);
        return 1;
    }

    public int step(int i) {
        return i >= 0 && i < theory.stepCount ? theory.steps[i] : NONE;
    }

    public int keys() {
        theory.findKeys();
        return theory.keyCount;
    }

    public int key(int i) {
        theory.findKeys();
        return i >= 0 && i < theory.keyCount ? theory.keySets[i] : NONE;
    }

    public int prime() {
        return theory.primeOf(theory.all);
    }

    public int cover() {
        lawCover.build();
        return lawCover.count;
    }

    public int covered(int i, int what) {
        lawCover.build();
        if (i < 0 || i >= lawCover.count) {
            return UNKNOWN;
        }
        if (what < 0 || what > 1) {
            return OUTSIDE;
        }
        return what == 0 ? lawCover.xs[i] : lawCover.columns[i];
    }

    // ---- 3 parts

    public int third() {
        lawCover.build();
        theory.findKeys();
        return parts.becomeThird(lawCover) ? parts.count : FULL;
    }

    public int strict() {
        return parts.becomeStrict() ? parts.count : FULL;
    }

    public int part(int set) {
        if (set == 0 || !theory.isWithinAll(set)) {
            return OUTSIDE;
        }
        if (parts.count >= MOST_PARTS) {
            return FULL;
        }
        parts.sets[parts.count] = set;
        parts.count++;
        return parts.count;
    }

    public int unpart() {
        int before = parts.count;
        parts.count = 0;
        return before;
    }

    public int parted(int i) {
        return i >= 0 && i < parts.count ? parts.sets[i] : UNKNOWN;
    }

    public int form(int set) {
        if (set == 0 || !theory.isWithinAll(set)) {
            return OUTSIDE;
        }
        int third = theory.isThird(set, theory.primeOf(set)) ? 1 : 0;
        int strict = theory.splitterOf(set) == NONE ? 2 : 0;
        return third + strict;
    }

    public int lossless() {
        return parts.areLossless() ? 1 : 0;
    }

    public int lack() {
        int lacking = 0;
        for (int k = 0; k < theory.forceCount; k++) {
            if (!parts.keepForce(k)) {
                lacking++;
            }
        }
        return lacking;
    }

    public int keeps(int law) {
        if (!laws.has(law)) {
            return UNKNOWN;
        }
        int k = theory.placeInForce(law);
        if (k == NONE) {
            return STATE;
        }
        return parts.keepForce(k) ? 1 : 0;
    }

    // ---- 3 tables parted and joined

    public int project(int t, int set, int u) {
        Table table = standing(t);
        if (table == null || !isTableNumber(u)) {
            return UNKNOWN;
        }
        if (!isSet(set)) {
            return OUTSIDE;
        }
        if (set == 0 || !table.hasColumns(set) || u == t) {
            return STATE;
        }
        return tables[u].becomeProjection(table, set);
    }

    public int join(int t, int x, int u, int y, int w) {
        Table left = standing(t);
        Table right = standing(u);
        if (left == null || right == null || !isTableNumber(w)) {
            return UNKNOWN;
        }
        if (!isSet(x) || !isSet(y)) {
            return OUTSIDE;
        }
        if (left.columnCount != Integer.bitCount(x) || right.columnCount != Integer.bitCount(y)) {
            return STATE;
        }
        if (!haveCommonLanes(left, x, right, y) || w == t || w == u) {
            return STATE;
        }
        if (joinedRows(left, x, right, y) > MOST_ROWS) {
            return FULL;
        }
        return tables[w].becomeJoin(left, x, right, y);
    }

    // ---- what is told

    public int fault() {
        return latestFault;
    }

    public int told(int what) {
        switch (what) {
            case 0:
                return laws.count;
            case 1:
                return theory.forceCount;
            case 2:
                return search.count;
            case 3:
                return parts.count;
            case 4:
                return theory.stepCount;
            case 5:
                return theory.columnCount;
            default:
                return OUTSIDE;
        }
    }

    // ---- what the calls share

    private int faulted(int fault) {
        latestFault = fault;
        return FAULT_BASE - fault;
    }

    private Table standing(int t) {
        return isTableNumber(t) && tables[t].there ? tables[t] : null;
    }

    private int refusalOfSets(int t, int x, int y) {
        Table table = standing(t);
        if (table == null) {
            return UNKNOWN;
        }
        if (!isSet(x) || !isSet(y)) {
            return OUTSIDE;
        }
        return table.hasColumns(x | y) ? 0 : STATE;
    }

    private void renewForce() {
        theory.takeForce(laws);
        lawCover.stands = false;
    }

    private static boolean isTableNumber(int t) {
        return t >= 0 && t < MOST_TABLES;
    }

    private static boolean isLane(int lane) {
        return lane >= 0 && lane < LANES;
    }

    private static boolean isSet(int set) {
        return set >= 0 && set < SETS;
    }

    private static boolean isWithin(int inner, int outer) {
        return (inner & ~outer) == 0;
    }

    private static boolean hasBit(int set, int column) {
        return (set >> column & 1) == 1;
    }

    private static boolean isOneColumn(int set) {
        return isSet(set) && Integer.bitCount(set) == 1;
    }

    private static boolean looksAtY(int kind) {
        return kind != KEY && kind != NEVER;
    }

    private static boolean isLawAsTold(int kind, int x, int y) {
        if (kind < 0 || kind >= KINDS || !isSet(x)) {
            return false;
        }
        if (kind == ORDER) {
            return isOneColumn(x) && isOneColumn(y);
        }
        if (kind == WITHIN) {
            return isTableNumber(y);
        }
        return !looksAtY(kind) || isSet(y);
    }

    private static boolean isTakenAs(int kind, int as) {
        boolean tellsToo = kind == KEY || kind == SEVERAL || kind == ORDER;
        return kind == as || as == TELLS && tellsToo;
    }

    /** How many columns of a set stand ahead of one: its place among them. */
    private static int placeIn(int set, int column) {
        return Integer.bitCount(set & (1 << column) - 1);
    }

    private static int onlyColumnOf(int set) {
        return Integer.bitCount(set - 1);
    }

    private static int cell(int row, int column) {
        return column * MOST_ROWS + row;
    }

    private static long cutToLane(int lane, long v) {
        switch (lane) {
            case BYTES:
                return (byte) v;
            case SHORTS:
                return (short) v;
            case CHARS:
                return (char) v;
            case INTS:
                return (int) v;
            case DOUBLES:
                return bitsOfOneKind(v);
            default:
                return v;
        }
    }

    private static long bitsOfOneKind(long bits) {
        long infinity = 0x7ff0000000000000L;
        if ((bits & Long.MAX_VALUE) > infinity) {
            return 0x7ff8000000000000L;
        }
        return bits == Long.MIN_VALUE ? 0 : bits;
    }

    /** A number that stands to others as a value does in THE ORDER of its lane. */
    private static long rankOf(int lane, long v) {
        // Bits of doubles below zero fall as their numbers rise; what is not a number has the highest bits.
        return lane == DOUBLES && v < 0 ? v ^ Long.MAX_VALUE : v;
    }

    /** Missing cells are taken as the left TABLE takes them. */
    private static boolean areCellsLike(Table left, int leftCell, Table right, int rightCell) {
        boolean leftHas = left.filled[leftCell] != 0;
        boolean rightHas = right.filled[rightCell] != 0;
        if (leftHas && rightHas) {
            return left.values[leftCell] == right.values[rightCell];
        }
        return left.takesMissingAsLike && !leftHas && !rightHas;
    }

    private static boolean haveCommonLanes(Table left, int x, Table right, int y) {
        for (int c = 0; c < MOST_COLUMNS; c++) {
            if (hasBit(x & y, c) && left.lanes[placeIn(x, c)] != right.lanes[placeIn(y, c)]) {
                return false;
            }
        }
        return true;
    }

    private static boolean doRowsMeet(Table left, int i, int x, Table right, int j, int y) {
        for (int c = 0; c < MOST_COLUMNS; c++) {
            if (hasBit(x & y, c)) {
                int leftCell = cell(i, placeIn(x, c));
                int rightCell = cell(j, placeIn(y, c));
                if (!areCellsLike(left, leftCell, right, rightCell)) {
                    return false;
                }
            }
        }
        return true;
    }

    private static int joinedRows(Table left, int x, Table right, int y) {
        int met = 0;
        for (int i = 0; i < left.rowCount; i++) {
            for (int j = 0; j < right.rowCount; j++) {
                if (doRowsMeet(left, i, x, right, j, y)) {
                    met++;
                }
            }
        }
        return met;
    }

    /** One of the TABLES; its cells stand column by column. */
    private static final class Table {
        boolean there;
        boolean takesMissingAsLike;
        int columnCount;
        int rowCount;
        final int[] lanes = new int[MOST_COLUMNS];
        final long[] values = new long[MOST_COLUMNS * MOST_ROWS];
        /** 1: the cell has a value; 0: it is missing. */
        final byte[] filled = new byte[MOST_COLUMNS * MOST_ROWS];

        void open(boolean areLike) {
            there = true;
            takesMissingAsLike = areLike;
            columnCount = 0;
            rowCount = 0;
        }

        int addColumn(int lane) {
            lanes[columnCount] = lane;
            columnCount++;
            return columnCount - 1;
        }

        int addRows(int n) {
            for (int row = rowCount; row < rowCount + n; row++) {
                for (int c = 0; c < columnCount; c++) {
                    filled[cell(row, c)] = 0;
                }
            }
            rowCount += n;
            return rowCount;
        }

        boolean hasColumn(int column) {
            return column >= 0 && column < columnCount;
        }

        boolean hasRow(int row) {
            return row >= 0 && row < rowCount;
        }

        int columnSet() {
            return (1 << columnCount) - 1;
        }

        boolean hasColumns(int set) {
            return isWithin(set, columnSet());
        }

        int faultOf(int row, int column) {
            if (!there) {
                return NULL;
            }
            return hasColumn(column) && hasRow(row) ? 0 : INDEX;
        }

        int faultOfReading(int row, int column, int lane) {
            // A wrong lane is come to behind the column, but ahead of the row.
            if (there && hasColumn(column) && lanes[column] != lane) {
                return CAST;
            }
            return faultOf(row, column);
        }

        boolean hasValue(int row, int column) {
            return filled[cell(row, column)] != 0;
        }

        long valueOf(int row, int column) {
            return values[cell(row, column)];
        }

        void store(int row, int column, long v) {
            values[cell(row, column)] = cutToLane(lanes[column], v);
            filled[cell(row, column)] = 1;
        }

        boolean erase(int row, int column) {
            boolean was = hasValue(row, column);
            filled[cell(row, column)] = 0;
            return was;
        }

        void moveCells(int from, int i, int to, int j, int n) {
            System.arraycopy(values, cell(i, from), values, cell(j, to), n);
            System.arraycopy(filled, cell(i, from), filled, cell(j, to), n);
        }

        int missingCells() {
            int missing = 0;
            for (int row = 0; row < rowCount; row++) {
                missing += Integer.bitCount(missingIn(row));
            }
            return missing;
        }

        /** The columns whose cells are missing in a row. */
        int missingIn(int row) {
            int set = 0;
            for (int c = 0; c < columnCount; c++) {
                if (!hasValue(row, c)) {
                    set |= 1 << c;
                }
            }
            return set;
        }

        /** The columns in which two rows are LIKE. */
        int likeColumns(int i, int j) {
            int set = 0;
            for (int c = 0; c < columnCount; c++) {
                if (areCellsLike(this, cell(i, c), this, cell(j, c))) {
                    set |= 1 << c;
                }
            }
            return set;
        }

        boolean areRowsLike(int i, int j, int set) {
            return isWithin(set, likeColumns(i, j));
        }

        boolean hasElderLike(int row, int set) {
            for (int elder = 0; elder < row; elder++) {
                if (areRowsLike(elder, row, set)) {
                    return true;
                }
            }
            return false;
        }

        int rowsSeenBefore(int set) {
            int seen = 0;
            for (int row = 0; row < rowCount; row++) {
                if (hasElderLike(row, set)) {
                    seen++;
                }
            }
            return seen;
        }

        int rowsToLeaveOut(int x, int y) {
            int stay = 0;
            for (int row = 0; row < rowCount; row++) {
                if (!hasElderLike(row, x)) {
                    stay += mostThatStay(row, x, y);
                }
            }
            return rowCount - stay;
        }

        /** Of the rows LIKE in X to the first of them, how many at most are LIKE in Y to one another. */
        int mostThatStay(int first, int x, int y) {
            int most = 0;
            for (int row = first; row < rowCount; row++) {
                if (row == first || areRowsLike(first, row, x)) {
                    most = Math.max(most, 1 + laterLike(row, x | y));
                }
            }
            return most;
        }

        int laterLike(int row, int set) {
            int later = 0;
            for (int other = row + 1; other < rowCount; other++) {
                if (areRowsLike(row, other, set)) {
                    later++;
                }
            }
            return later;
        }

        boolean hasLanesOf(Table other, int set) {
            for (int c = 0; c < columnCount; c++) {
                if (hasBit(set, c) && lanes[c] != other.lanes[c]) {
                    return false;
                }
            }
            return true;
        }

        /** Whether some row here has, in a set, the values that a row of another TABLE has there. */
        boolean hasValuesOf(Table other, int row, int set) {
            for (int own = 0; own < rowCount; own++) {
                if (isWithin(set, sameValues(own, other, row))) {
                    return true;
                }
            }
            return false;
        }

        int sameValues(int own, Table other, int row) {
            int set = 0;
            for (int c = 0; c < columnCount; c++) {
                boolean both = hasValue(own, c) && other.hasValue(row, c);
                if (both && valueOf(own, c) == other.valueOf(row, c)) {
                    set |= 1 << c;
                }
            }
            return set;
        }

        int becomeProjection(Table source, int set) {
            open(source.takesMissingAsLike);
            for (int c = 0; c < MOST_COLUMNS; c++) {
                if (hasBit(set, c)) {
                    addColumn(source.lanes[c]);
                }
            }
            for (int row = 0; row < source.rowCount; row++) {
                if (!source.hasElderLike(row, set)) {
                    addRows(1);
                    takeCells(set, set, source, row, source.columnSet());
                }
            }
            return rowCount;
        }

        int becomeJoin(Table left, int x, Table right, int y) {
            open(left.takesMissingAsLike);
            for (int c = 0; c < MOST_COLUMNS; c++) {
                if (hasBit(x, c)) {
                    addColumn(left.lanes[placeIn(x, c)]);
                } else if (hasBit(y, c)) {
                    addColumn(right.lanes[placeIn(y, c)]);
                }
            }
            for (int i = 0; i < left.rowCount; i++) {
                for (int j = 0; j < right.rowCount; j++) {
                    if (rowCount < MOST_ROWS && doRowsMeet(left, i, x, right, j, y)) {
                        addRows(1);
                        takeCells(x, x | y, left, i, x);
                        takeCells(y & ~x, x | y, right, j, y);
                    }
                }
            }
            return rowCount;
        }

        /** The last row takes columns of a set; own and names are what the columns here and there are called. */
        void takeCells(int set, int own, Table source, int row, int names) {
            for (int c = 0; c < MOST_COLUMNS; c++) {
                if (hasBit(set, c)) {
                    int to = cell(rowCount - 1, placeIn(own, c));
                    int from = cell(row, placeIn(names, c));
                    values[to] = source.values[from];
                    filled[to] = source.filled[from];
                }
            }
        }
    }

    /** The LAWS, numbered as they came. */
    private static final class Laws {
        int count;
        final int[] kinds = new int[MOST_LAWS];
        final int[] xs = new int[MOST_LAWS];
        final int[] ys = new int[MOST_LAWS];
        final boolean[] dropped = new boolean[MOST_LAWS];

        int add(int kind, int x, int y) {
            kinds[count] = kind;
            xs[count] = x;
            ys[count] = y;
            count++;
            return count - 1;
        }

        boolean has(int law) {
            return law >= 0 && law < count;
        }

        boolean isInForce(int law) {
            return !dropped[law] && (kinds[law] == TELLS || kinds[law] == KEY);
        }
    }

    /** Whether a LAW HOLDS in a TABLE, and where the latest one BREAKS. */
    private static final class Judge {
        int brokenRow = NONE;
        int brokenOther = NONE;

        boolean holds(Table table, int kind, int x, int y, Table other) {
            brokenRow = NONE;
            brokenOther = NONE;
            switch (kind) {
                case TELLS:
                    return holdsTells(table, x, y);
                case KEY:
                    return holdsTells(table, x, table.columnSet());
                case SEVERAL:
                    return holdsSeveral(table, x, y);
                case NEVER:
                    return holdsNever(table, x);
                case ORDER:
                    return holdsOrder(table, x, y);
                default:
                    return holdsWithin(table, x, other);
            }
        }

        boolean breaksAt(int row, int other) {
            brokenRow = row;
            brokenOther = other;
            return false;
        }

        boolean holdsTells(Table table, int x, int y) {
            for (int i = 0; i < table.rowCount; i++) {
                for (int j = i + 1; j < table.rowCount; j++) {
                    int like = table.likeColumns(i, j);
                    if (isWithin(x, like) && !isWithin(y, like)) {
                        return breaksAt(i, j);
                    }
                }
            }
            return true;
        }

        boolean holdsSeveral(Table table, int x, int y) {
            int rest = table.columnSet() & ~(x | y);
            for (int i = 0; i < table.rowCount; i++) {
                for (int j = 0; j < table.rowCount; j++) {
                    boolean asked = i != j && table.areRowsLike(i, j, x);
                    if (asked && !hasBetween(table, i, x | y, j, x | rest)) {
                        return breaksAt(i, j);
                    }
                }
            }
            return true;
        }

        boolean hasBetween(Table table, int i, int set, int j, int otherSet) {
            for (int row = 0; row < table.rowCount; row++) {
                if (table.areRowsLike(row, i, set) && table.areRowsLike(row, j, otherSet)) {
                    return true;
                }
            }
            return false;
        }

        boolean holdsNever(Table table, int x) {
            for (int row = 0; row < table.rowCount; row++) {
                if ((table.missingIn(row) & x) != 0) {
                    return breaksAt(row, NONE);
                }
            }
            return true;
        }

        boolean holdsOrder(Table table, int x, int y) {
            int first = onlyColumnOf(x);
            int second = onlyColumnOf(y);
            for (int i = 0; i < table.rowCount; i++) {
                for (int j = 0; j < table.rowCount; j++) {
                    boolean asked = ((table.missingIn(i) | table.missingIn(j)) & (x | y)) == 0;
                    if (asked && !isBehind(table, first, i, j) && isBehind(table, second, i, j)) {
                        return breaksAt(i, j);
                    }
                }
            }
            return true;
        }

        boolean isBehind(Table table, int column, int i, int j) {
            int lane = table.lanes[column];
            return rankOf(lane, table.valueOf(i, column)) > rankOf(lane, table.valueOf(j, column));
        }

        boolean holdsWithin(Table table, int x, Table other) {
            boolean sameLanes = table.hasLanesOf(other, x);
            for (int row = 0; row < table.rowCount; row++) {
                boolean asked = (table.missingIn(row) & x) == 0;
                if (asked && !(sameLanes && other.hasValuesOf(table, row, x))) {
                    return breaksAt(row, NONE);
                }
            }
            return true;
        }
    }

    /** The TELLS laws FOUND in a TABLE. */
    private static final class Search {
        int count;
        final int[] xs = new int[MOST_FOUND];
        final int[] columns = new int[MOST_FOUND];
        int pairCount;
        final int[] pairs = new int[MOST_PAIRS];
        final boolean[] holding = new boolean[SETS];

        void run(Table table) {
            notePairs(table);
            count = 0;
            for (int c = 0; c < table.columnCount; c++) {
                findThatTell(c, table.columnSet() & ~(1 << c));
            }
        }

        /** Notes in which columns each two rows are LIKE: no more is asked of the cells. */
        void notePairs(Table table) {
            pairCount = 0;
            for (int i = 0; i < table.rowCount; i++) {
                for (int j = i + 1; j < table.rowCount; j++) {
                    pairs[pairCount] = table.likeColumns(i, j);
                    pairCount++;
                }
            }
        }

        void findThatTell(int column, int others) {
            for (int x = 0; x <= others; x++) {
                if (isWithin(x, others)) {
                    // Whatever has a set that holds within it holds, too, but is not FOUND.
                    boolean lessHolds = hasLessThatHolds(x);
                    holding[x] = lessHolds || doPairsAgree(x, column);
                    if (holding[x] && !lessHolds) {
                        note(x, column);
                    }
                }
            }
        }

        boolean hasLessThatHolds(int x) {
            for (int c = 0; c < MOST_COLUMNS; c++) {
                if (hasBit(x, c) && holding[x & ~(1 << c)]) {
                    return true;
                }
            }
            return false;
        }

        boolean doPairsAgree(int x, int column) {
            for (int pair = 0; pair < pairCount; pair++) {
                if (isWithin(x, pairs[pair]) && !hasBit(pairs[pair], column)) {
                    return false;
                }
            }
            return true;
        }

        void note(int x, int column) {
            if (count < MOST_FOUND) {
                xs[count] = x;
                columns[count] = column;
                count++;
            }
        }
    }

    /** What follows from the LAWS in force: closures, steps, keys, forms. */
    private static final class Theory {
        int columnCount = 4;
        int all = 15;
        int forceCount;
        final int[] forceLaws = new int[MOST_LAWS];
        final int[] forceXs = new int[MOST_LAWS];
        final int[] forceYs = new int[MOST_LAWS];
        final int[] closures = new int[SETS];
        int stepCount;
        final int[] steps = new int[MOST_COLUMNS];
        boolean keysStand;
        int keyCount;
        final int[] keySets = new int[MOST_KEYS];

        Theory() {
            Arrays.fill(closures, UNTOLD);
        }

        void widen(int n) {
            columnCount = n;
            all = (1 << n) - 1;
        }

        /** Takes the LAWS in force, as far as they are within ALL, and forgets what followed before. */
        void takeForce(Laws laws) {
            forceCount = 0;
            for (int law = 0; law < laws.count; law++) {
                if (laws.isInForce(law)) {
                    forceLaws[forceCount] = law;
                    forceXs[forceCount] = laws.xs[law] & all;
                    forceYs[forceCount] = laws.kinds[law] == KEY ? all : laws.ys[law] & all;
                    forceCount++;
                }
            }
            Arrays.fill(closures, UNTOLD);
            keysStand = false;
        }

        /** Where a LAW stands among those in force, or NONE. */
        int placeInForce(int law) {
            for (int k = 0; k < forceCount; k++) {
                if (forceLaws[k] == law) {
                    return k;
                }
            }
            return NONE;
        }

        boolean isWithinAll(int set) {
            return isWithin(set, all);
        }

        /** The place of the least LAW in force that has more to tell to a set, or NONE. */
        int nextForce(int set) {
            for (int k = 0; k < forceCount; k++) {
                if (isWithin(forceXs[k], set) && !isWithin(forceYs[k], set)) {
                    return k;
                }
            }
            return NONE;
        }

        int closureOf(int set) {
            if (closures[set] != UNTOLD) {
                return closures[set];
            }
            int grown = set;
            // Each LAW taken brings a column at least.
            for (int taken = 0; taken < MOST_COLUMNS; taken++) {
                int k = nextForce(grown);
                if (k == NONE) {
                    break;
                }
                grown |= forceYs[k];
            }
            closures[set] = grown;
            return grown;
        }

        void noteSteps(int x, int y) {
            int grown = x;
            stepCount = 0;
            for (int taken = 0; taken < MOST_COLUMNS && !isWithin(y, grown); taken++) {
                int k = nextForce(grown);
                if (k == NONE) {
                    break;
                }
                steps[stepCount] = forceLaws[k];
                stepCount++;
                grown |= forceYs[k];
            }
        }

        boolean tellsAllOf(int s, int set) {
            return isWithin(set, closureOf(s));
        }

        /** Whether s tells all of a set, and no longer does without any one of its columns. */
        boolean isLeastFor(int s, int set) {
            if (!tellsAllOf(s, set)) {
                return false;
            }
            for (int c = 0; c < MOST_COLUMNS; c++) {
                if (hasBit(s, c) && tellsAllOf(s & ~(1 << c), set)) {
                    return false;
                }
            }
            return true;
        }

        void findKeys() {
            if (keysStand) {
                return;
            }
            keyCount = 0;
            for (int s = 0; s <= all; s++) {
                if (isLeastFor(s, all) && keyCount < MOST_KEYS) {
                    keySets[keyCount] = s;
                    keyCount++;
                }
            }
            keysStand = true;
        }

        int primeOf(int set) {
            int prime = 0;
            for (int s = 0; s <= set; s++) {
                if (isWithin(s, set) && isLeastFor(s, set)) {
                    prime |= s;
                }
            }
            return prime;
        }

        boolean isThird(int set, int prime) {
            for (int s = 0; s <= set; s++) {
                if (isWithin(s, set)) {
                    int told = closureOf(s) & set;
                    if (told != set && !isWithin(told & ~s, prime)) {
                        return false;
                    }
                }
            }
            return true;
        }

        /** The least set within one that tells more of it, but not all; NONE: it is strict. */
        int splitterOf(int set) {
            for (int s = 0; s <= set; s++) {
                if (isWithin(s, set)) {
                    int told = closureOf(s) & set;
                    if (told != set && told != s) {
                        return s;
                    }
                }
            }
            return NONE;
        }
    }

    /** THE COVER of the LAWS in force. */
    private static final class Cover {
        final Theory theory;
        boolean stands;
        int count;
        final int[] xs = new int[MOST_COVER];
        final int[] columns = new int[MOST_COVER];

        Cover(Theory theory) {
            this.theory = theory;
        }

        void build() {
            if (stands) {
                return;
            }
            count = 0;
            for (int k = 0; k < theory.forceCount; k++) {
                addEach(theory.forceXs[k], theory.forceYs[k] & ~theory.forceXs[k]);
            }
            for (int i = 0; i < count; i++) {
                shorten(i);
            }
            leaveOutWhatFollows();
            stands = true;
        }

        void addEach(int x, int told) {
            for (int c = 0; c < MOST_COLUMNS; c++) {
                if (hasBit(told, c) && count < MOST_COVER) {
                    xs[count] = x;
                    columns[count] = c;
                    count++;
                }
            }
        }

        void shorten(int i) {
            // What is left out follows from the rest, so THE COVER always closes sets as the LAWS do.
            for (int c = 0; c < MOST_COLUMNS; c++) {
                int rest = xs[i] & ~(1 << c);
                if (rest != xs[i] && hasBit(theory.closureOf(rest), columns[i])) {
                    xs[i] = rest;
                }
            }
        }

        void leaveOutWhatFollows() {
            int i = 0;
            for (int left = count; left > 0; left--) {
                if (followsFromOthers(i)) {
                    leaveOut(i);
                } else {
                    i++;
                }
            }
        }

        boolean followsFromOthers(int i) {
            int grown = xs[i];
            // A pass that goes on has brought a column, and there are no more than eight.
            for (int pass = 0; pass <= MOST_COLUMNS; pass++) {
                int before = grown;
                for (int k = 0; k < count; k++) {
                    if (k != i && isWithin(xs[k], grown)) {
                        grown |= 1 << columns[k];
                    }
                }
                if (grown == before || hasBit(grown, columns[i])) {
                    break;
                }
            }
            return hasBit(grown, columns[i]);
        }

        void leaveOut(int i) {
            for (int k = i + 1; k < count; k++) {
                xs[k - 1] = xs[k];
                columns[k - 1] = columns[k];
            }
            count--;
        }

        boolean isFirstOfItsX(int i) {
            for (int k = 0; k < i; k++) {
                if (xs[k] == xs[i]) {
                    return false;
                }
            }
            return true;
        }

        /** X of a law and all that is told by laws with that X. */
        int groupOf(int i) {
            int group = xs[i];
            for (int k = 0; k < count; k++) {
                if (xs[k] == xs[i]) {
                    group |= 1 << columns[k];
                }
            }
            return group;
        }
    }

    /** The PARTS, how they are made, and how they are judged. */
    private static final class Parts {
        final Theory theory;
        int count;
        final int[] sets = new int[MOST_PARTS];
        int draftCount;
        final int[] draft = new int[MOST_COVER + 1];
        final int[] signs = new int[MOST_PARTS * MOST_COLUMNS];

        Parts(Theory theory) {
            this.theory = theory;
        }

        boolean becomeThird(Cover cover) {
            draftCount = 0;
            for (int i = 0; i < cover.count; i++) {
                if (cover.isFirstOfItsX(i)) {
                    draft[draftCount] = cover.groupOf(i);
                    draftCount++;
                }
            }
            leaveOutInner();
            if (!hasDraftKey() && theory.keyCount > 0) {
                draft[draftCount] = theory.keySets[0];
                draftCount++;
            }
            return takeDraft();
        }

        void leaveOutInner() {
            int stay = 0;
            for (int i = 0; i < draftCount; i++) {
                if (!isInner(i, stay)) {
                    draft[stay] = draft[i];
                    stay++;
                }
            }
            draftCount = stay;
        }

        /** The first ones stay; of like ones only a later one is within another. */
        boolean isInner(int i, int stay) {
            for (int k = 0; k < stay; k++) {
                if (isWithin(draft[i], draft[k])) {
                    return true;
                }
            }
            for (int k = i + 1; k < draftCount; k++) {
                if (isWithin(draft[i], draft[k]) && draft[i] != draft[k]) {
                    return true;
                }
            }
            return false;
        }

        boolean hasDraftKey() {
            for (int i = 0; i < draftCount; i++) {
                // A set has a KEY within it just if it tells ALL.
                if (theory.tellsAllOf(draft[i], theory.all)) {
                    return true;
                }
            }
            return false;
        }

        boolean becomeStrict() {
            draft[0] = theory.all;
            draftCount = 1;
            for (int splits = 0; splits < MOST_PARTS; splits++) {
                if (!splitFirst()) {
                    break;
                }
            }
            return takeDraft();
        }

        boolean splitFirst() {
            for (int i = 0; i < draftCount; i++) {
                int s = theory.splitterOf(draft[i]);
                if (s != NONE) {
                    split(i, s);
                    return true;
                }
            }
            return false;
        }

        void split(int i, int s) {
            for (int k = draftCount; k > i + 1; k--) {
                draft[k] = draft[k - 1];
            }
            int closed = theory.closureOf(s);
            draft[i + 1] = draft[i] & ~closed | s;
            draft[i] = draft[i] & closed;
            draftCount++;
        }

        boolean takeDraft() {
            if (draftCount > MOST_PARTS) {
                return false;
            }
            for (int i = 0; i < draftCount; i++) {
                sets[i] = draft[i];
            }
            count = draftCount;
            return true;
        }

        boolean keepForce(int k) {
            int got = theory.forceXs[k];
            for (int pass = 0; pass <= MOST_COLUMNS; pass++) {
                int before = got;
                for (int i = 0; i < count; i++) {
                    got |= theory.closureOf(got & sets[i]) & sets[i];
                }
                if (got == before) {
                    break;
                }
            }
            return isWithin(theory.forceYs[k], got);
        }

        boolean areLossless() {
            writeSigns();
            // A pass that goes on has made two signs of a column one.
            for (int pass = 0; pass <= MOST_PARTS * MOST_COLUMNS; pass++) {
                if (!chaseAll()) {
                    break;
                }
            }
            for (int row = 0; row < count; row++) {
                if (isRowWhole(row)) {
                    return true;
                }
            }
            return false;
        }

        void writeSigns() {
            for (int row = 0; row < count; row++) {
                for (int c = 0; c < MOST_COLUMNS; c++) {
                    signs[row * MOST_COLUMNS + c] = hasBit(sets[row], c) ? 0 : row + 1;
                }
            }
        }

        boolean chaseAll() {
            boolean changed = false;
            for (int k = 0; k < theory.forceCount; k++) {
                changed = chase(theory.forceXs[k], theory.forceYs[k]) || changed;
            }
            return changed;
        }

        boolean chase(int x, int y) {
            boolean changed = false;
            for (int i = 0; i < count; i++) {
                for (int j = i + 1; j < count; j++) {
                    int same = sameSigns(i, j);
                    if (isWithin(x, same) && !isWithin(y, same)) {
                        makeOne(i, j, y & ~same);
                        changed = true;
                    }
                }
            }
            return changed;
        }

        int sameSigns(int i, int j) {
            int set = 0;
            for (int c = 0; c < MOST_COLUMNS; c++) {
                if (signs[i * MOST_COLUMNS + c] == signs[j * MOST_COLUMNS + c]) {
                    set |= 1 << c;
                }
            }
            return set;
        }

        void makeOne(int i, int j, int set) {
            for (int c = 0; c < MOST_COLUMNS; c++) {
                if (hasBit(set, c)) {
                    int first = signs[i * MOST_COLUMNS + c];
                    int second = signs[j * MOST_COLUMNS + c];
                    replace(c, Math.max(first, second), Math.min(first, second));
                }
            }
        }

        void replace(int column, int old, int fresh) {
            for (int row = 0; row < count; row++) {
                if (signs[row * MOST_COLUMNS + column] == old) {
                    signs[row * MOST_COLUMNS + column] = fresh;
                }
            }
        }

        boolean isRowWhole(int row) {
            for (int c = 0; c < theory.columnCount; c++) {
                if (signs[row * MOST_COLUMNS + c] != 0) {
                    return false;
                }
            }
            return true;
        }
    }
}
