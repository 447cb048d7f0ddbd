/** The sentences of promises 1 to 11: a new object, and tables. */
public final class KeyFinderTablesTest extends Sentences {
    private static final int[] NO_TABLES = {-1, 4, MIN, MAX};

    public static void main(String[] args) {
        newObject();
        table();
        nothingOfWhatWasThere();
        drop();
        column();
        columnRefusals();
        rows();
        rowRefusals();
        put();
        putFaults();
        miss();
        at();
        atFaults();
        copy();
        copyRefusals();
        about();
        like();
        end(1, 11);
    }

    /** A TABLE with a column of each LANE and two rows: those of row 1 have the values 10 .. 15. */
    private static void lanes(Finder k) {
        due(k.table(0, true), 1);
        for (int lane = 0; lane < 6; lane++) {
            due(k.column(0, lane), lane);
        }
        due(k.rows(0, 2), 2);
        for (int lane = 0; lane < 6; lane++) {
            due(k.put(0, 1, lane, 10 + lane), 1);
        }
    }

    private static void newObject() {
        of(1, "No TABLES, LAWS, PARTS.");
        for (int t = 0; t < 4; t++) {
            Finder k = new Finder();
            due(k.about(t, 0), UNKNOWN);
            due(k.find(t), UNKNOWN);
            due(k.drop(t), 0);
        }
        Finder k = new Finder();
        due(k.told(0), 0);
        due(k.told(1), 0);
        due(k.told(2), 0);
        due(k.told(3), 0);
        due(k.told(4), 0);
        due(k.told(5), 4);
        due(k.unlaw(0), UNKNOWN);
        due(k.say(0, TELLS, 0), UNKNOWN);
        due(k.keeps(0), UNKNOWN);
        due(k.parted(0), UNKNOWN);
        due(k.unpart(), 0);
        due(k.found(0, 0), UNKNOWN);
        due(k.step(0), NONE);
        breaksAt(k, NONE, NONE);
        due(k.fault(), 0);
        due(k.lossless(), 0);
        due(k.lack(), 0);
        due(k.cover(), 0);
        keysAre(k, 15);
        // Two objects have nothing of one another.
        Finder other = new Finder();
        lived(other);
        due(k.told(0), 0);
        due(k.about(0, 0), UNKNOWN);
        partsAre(k);
    }

    private static void table() {
        of(2, "A TABLE without columns, rows, in place of what was there;");
        for (int t = 0; t < 4; t++) {
            Finder k = new Finder();
            sized(k, t, 8, 24);
            due(k.put(t, 23, 7, 5), 1);
            due(k.table(t, true), 1);
            due(k.about(t, 0), 0);
            due(k.about(t, 1), 0);
            due(k.about(t, 3), 0);
            due(k.about(t, 4), OUTSIDE);
            due(k.put(t, 0, 0, 1), INDEX);
            // It is full no more, and none of the old values come again.
            sized(k, t, 8, 24);
            due(k.about(t, 3), 192);
            due(k.at(t, 23, 7, INTS), LOST);
        }
        Finder k = new Finder();
        sized(k, 1, 2, 3);
        sized(k, 3, 1, 1);
        due(k.table(2, false), 1);
        due(k.about(1, 1), 3);
        due(k.about(3, 1), 1);
        due(k.about(0, 1), UNKNOWN);
        of(2, "missing cells are like one another, or not: 1.");
        for (int t = 0; t < 4; t++) {
            k = new Finder();
            due(k.table(t, false), 1);
            due(k.about(t, 2), 0);
            due(k.column(t, INTS), 0);
            due(k.rows(t, 2), 2);
            due(k.like(t, 0, 1, 1), 0);
            due(k.table(t, true), 1);
            due(k.about(t, 2), 1);
            due(k.column(t, INTS), 0);
            due(k.rows(t, 2), 2);
            due(k.like(t, 0, 1, 1), 1);
        }
        of(2, "UNKNOWN.");
        for (int t : NO_TABLES) {
            refused(Sentences::lived, f -> f.table(t, false), UNKNOWN);
            refused(Sentences::fresh, f -> f.table(t, true), UNKNOWN);
        }
    }

    private static void nothingOfWhatWasThere() {
        of(2, "A TABLE without columns, rows, in place of what was there;");
        // A fourth row, which is there no more, would make SEVERAL hold.
        Finder k = with(true, cells(1, 1, 1), cells(1, 2, 2), cells(1, 1, 2), cells(1, 2, 1), cells(null, 0, 0));
        fill(k, 0, true, INTS, cells(1, 1, 1), cells(1, 2, 2), cells(1, 1, 2));
        int[][] laws = {{TELLS, 6, 1}, {KEY, 6, 0}, {SEVERAL, 1, 2}, {NEVER, 7, 0}, {ORDER, 2, 4}, {WITHIN, 6, 1}};
        for (int law = 0; law < 6; law++) {
            due(k.law(laws[law][0], laws[law][1], laws[law][2]), law);
        }
        fill(k, 1, true, INTS, cells(1, 1, 2), cells(1, 1, 1), cells(1, 2, 2));
        int[] holds = {1, 1, 0, 1, 0, 1};
        for (int law = 0; law < 6; law++) {
            due(k.hold(0, law), holds[law]);
        }
        due(k.misses(0, 1, 2), 1);
        due(k.twice(0, 2, 0), 1);
        due(k.find(0), 1);
        foundAre(k, 0, 0);
        due(k.project(0, 6, 2), 3);
        due(k.join(0, 7, 1, 7, 2), 3);
        // Of a TABLE Y, too.
        fill(k, 1, true, INTS, cells(1, 1, 2), cells(1, 1, 1));
        due(k.hold(0, 5), 0);
        breaksAt(k, 1, NONE);
        // Two rows are ordered, a third, that stood behind them, was not.
        due(k.law(ORDER, 1, 2), 6);
        for (Long[] third : new Long[][] {cells(3, 0), cells(0, 5)}) {
            fill(k, 0, true, INTS, cells(1, 1), cells(2, 2), third);
            due(k.hold(0, 6), 0);
            fill(k, 0, true, INTS, cells(1, 1), cells(2, 2));
            due(k.hold(0, 6), 1);
        }
        fill(k, 3, true, INTS, cells(2, 2), cells(1, 1));
        due(k.law(WITHIN, 3, 3), 7);
        due(k.hold(0, 7), 1);
    }

    private static void drop() {
        of(3, "A TABLE is not there any more: 1;");
        for (int t = 0; t < 4; t++) {
            Finder k = new Finder();
            for (int each = 0; each < 4; each++) {
                sized(k, each, 1, 1);
            }
            due(k.drop(t), 1);
            for (int each = 0; each < 4; each++) {
                due(k.about(each, 1), each == t ? UNKNOWN : 1);
            }
            due(k.column(t, 0), UNKNOWN);
            due(k.rows(t, 1), UNKNOWN);
            due(k.put(t, 0, 0, 1), NULL);
            due(k.miss(t, 0, 0), NULL);
            due(k.at(t, 0, 0, INTS), LOST);
            due(k.fault(), 1);
            due(k.copy(t, 0, 0, 0, 0, 0), UNKNOWN);
            due(k.like(t, 0, 0, 0), UNKNOWN);
            due(k.find(t), UNKNOWN);
            due(k.misses(t, 0, 0), UNKNOWN);
            due(k.twice(t, 0, 0), UNKNOWN);
            due(k.table(t, true), 1);
            due(k.about(t, 0), 0);
        }
        of(3, "0: it was not.");
        Finder k = new Finder();
        due(k.drop(0), 0);
        due(k.table(0, true), 1);
        due(k.drop(0), 1);
        due(k.drop(0), 0);
        due(k.drop(3), 0);
        refused(Sentences::lived, f -> f.drop(2), 0);
        of(3, "UNKNOWN: t is not 0 .. 3.");
        for (int t : NO_TABLES) {
            refused(Sentences::lived, f -> f.drop(t), UNKNOWN);
        }
    }

    private static void column() {
        of(4, "A column more: its number.");
        Finder k = new Finder();
        due(k.table(0, true), 1);
        due(k.table(3, true), 1);
        for (int c = 0; c < 8; c++) {
            due(k.column(0, c % 6), c);
            due(k.about(0, 0), c + 1);
            due(k.about(0, 4 + c), c % 6);
        }
        due(k.about(3, 0), 0);
        due(k.column(3, DOUBLES), 0);
        due(k.about(3, 4), DOUBLES);
    }

    private static void columnRefusals() {
        of(4, "UNKNOWN;");
        for (int t : NO_TABLES) {
            refused(Sentences::lived, k -> k.column(t, INTS), UNKNOWN);
        }
        refused(Sentences::lived, k -> k.column(2, INTS), UNKNOWN);
        of(4, "OUTSIDE: lane;");
        for (int lane : new int[] {-1, 6, MIN, MAX}) {
            refused(k -> sized(k, 0, 1, 0), k -> k.column(0, lane), OUTSIDE);
        }
        of(4, "STATE: it has rows;");
        refused(k -> sized(k, 0, 1, 1), k -> k.column(0, INTS), STATE);
        refused(k -> sized(k, 0, 1, 24), k -> k.column(0, INTS), STATE);
        refused(k -> sized(k, 0, 0, 1), k -> k.column(0, INTS), STATE);
        Finder k = new Finder();
        sized(k, 0, 1, 0);
        due(k.column(0, INTS), 1);
        due(k.rows(0, -1), SIZE);
        due(k.column(0, INTS), 2);
        due(k.rows(0, 25), OUTSIDE);
        due(k.column(0, INTS), 3);
        of(4, "FULL.");
        refused(f -> sized(f, 0, 8, 0), f -> f.column(0, BYTES), FULL);
        refused(f -> sized(f, 0, 8, 0), f -> f.column(0, DOUBLES), FULL);
        sized(k, 1, 7, 0);
        due(k.column(1, INTS), 7);
        due(k.column(1, INTS), FULL);
    }

    private static void rows() {
        of(5, "n rows more, all cells missing: how many it has.");
        Finder k = new Finder();
        sized(k, 0, 2, 0);
        int has = 0;
        for (int n : new int[] {0, 1, 0, 2, 20, 1, 0}) {
            has += n;
            due(k.rows(0, n), has);
            due(k.fault(), 0);
            due(k.about(0, 1), has);
            due(k.about(0, 3), 2 * has);
        }
        due(k.table(0, true), 1);
        due(k.rows(0, 24), 24);
        // Values of rows that are there stay; those that stood there before do not come again.
        sized(k, 0, 1, 2);
        due(k.put(0, 0, 0, 7), 1);
        due(k.put(0, 1, 0, 8), 1);
        sized(k, 0, 1, 1);
        due(k.put(0, 0, 0, 9), 1);
        due(k.rows(0, 2), 3);
        cellsAre(k, 0, INTS, new long[][] {{9}, {LOST}, {LOST}});
    }

    private static void rowRefusals() {
        of(5, "UNKNOWN;");
        for (int t : NO_TABLES) {
            refusedByOneOfFaults(Sentences::lived, k -> k.rows(t, 1), UNKNOWN);
        }
        refusedByOneOfFaults(Sentences::lived, k -> k.rows(2, 1), UNKNOWN);
        refusedByOneOfFaults(Sentences::lived, k -> k.rows(3, -1), UNKNOWN);
        of(5, "OUTSIDE: n above 24;");
        refusedByOneOfFaults(Sentences::lived, k -> k.rows(0, 25), OUTSIDE);
        refusedByOneOfFaults(Sentences::lived, k -> k.rows(0, MAX), OUTSIDE);
        refusedByOneOfFaults(k -> sized(k, 0, 1, 24), k -> k.rows(0, 25), OUTSIDE);
        of(5, "SIZE: n below 0;");
        faulted(Sentences::lived, k -> k.rows(0, -1), SIZE);
        faulted(Sentences::lived, k -> k.rows(0, MIN), SIZE);
        faulted(k -> sized(k, 0, 1, 24), k -> k.rows(0, -1), SIZE);
        faulted(k -> sized(k, 0, 0, 0), k -> k.rows(0, -24), SIZE);
        of(5, "FULL.");
        refusedByOneOfFaults(k -> sized(k, 0, 1, 1), k -> k.rows(0, 24), FULL);
        refusedByOneOfFaults(k -> sized(k, 0, 1, 24), k -> k.rows(0, 1), FULL);
        refusedByOneOfFaults(k -> sized(k, 0, 1, 24), k -> k.rows(0, 24), FULL);
        refusedByOneOfFaults(k -> sized(k, 0, 1, 12), k -> k.rows(0, 13), FULL);
        Finder k = new Finder();
        sized(k, 0, 1, 12);
        due(k.rows(0, 13), FULL);
        due(k.rows(0, 12), 24);
        due(k.rows(0, 0), 24);
    }

    private static void put() {
        of(6, "A cell gets a value: 1.");
        Finder k = new Finder();
        sized(k, 0, 8, 24);
        int[][] corners = {{0, 0}, {0, 7}, {23, 0}, {23, 7}, {11, 3}};
        for (int i = 0; i < corners.length; i++) {
            due(k.put(0, corners[i][0], corners[i][1], 100 + i), 1);
            due(k.fault(), 0);
            due(k.about(0, 3), 191 - i);
        }
        for (int i = 0; i < corners.length; i++) {
            due(k.at(0, corners[i][0], corners[i][1], INTS), 100 + i);
            due(k.put(0, corners[i][0], corners[i][1], -i), 1);
            due(k.at(0, corners[i][0], corners[i][1], INTS), -i);
        }
        due(k.about(0, 3), 187);
        // Its neighbours, and the same cell of another TABLE, get none.
        k = new Finder();
        sized(k, 0, 3, 3);
        sized(k, 1, 3, 3);
        due(k.put(0, 1, 1, 5), 1);
        cellsAre(k, 0, INTS, new long[][] {{LOST, LOST, LOST}, {LOST, 5, LOST}, {LOST, LOST, LOST}});
        due(k.about(1, 3), 9);
    }

    private static void putFaults() {
        of(6, "UNKNOWN: t is not 0 .. 3;");
        for (int t : NO_TABLES) {
            refusedByOneOfFaults(Sentences::lived, k -> k.put(t, 0, 0, 9), UNKNOWN);
        }
        of(6, "NULL: it is not there;");
        faulted(Sentences::lived, k -> k.put(2, 0, 0, 9), NULL);
        faulted(Sentences::lived, k -> k.put(3, -1, -1, 9), NULL);
        faulted(Sentences::fresh, k -> k.put(0, 0, 0, 9), NULL);
        of(6, "INDEX: column, then row.");
        for (int none : new int[] {-1, 3, 8, 24, MIN, MAX}) {
            faulted(Sentences::lived, k -> k.put(0, 0, none, 9), INDEX);
            faulted(Sentences::lived, k -> k.put(0, none, 0, 9), INDEX);
            faulted(Sentences::lived, k -> k.put(0, none, none, 9), INDEX);
        }
        faulted(k -> sized(k, 0, 0, 0), k -> k.put(0, 0, 0, 9), INDEX);
        faulted(k -> sized(k, 0, 0, 24), k -> k.put(0, 0, 0, 9), INDEX);
        faulted(k -> sized(k, 0, 8, 0), k -> k.put(0, 0, 0, 9), INDEX);
        faulted(k -> sized(k, 0, 8, 24), k -> k.put(0, 24, 0, 9), INDEX);
        faulted(k -> sized(k, 0, 8, 24), k -> k.put(0, 0, 8, 9), INDEX);
    }

    private static void miss() {
        of(7, "A cell is missing: 1; 0: it was.");
        Finder k = new Finder();
        sized(k, 0, 2, 2);
        due(k.miss(0, 1, 1), 0);
        due(k.fault(), 0);
        due(k.put(0, 1, 1, 0), 1);
        due(k.put(0, 0, 1, 4), 1);
        due(k.about(0, 3), 2);
        due(k.miss(0, 1, 1), 1);
        due(k.fault(), 0);
        due(k.about(0, 3), 3);
        due(k.at(0, 1, 1, INTS), LOST);
        due(k.at(0, 0, 1, INTS), 4);
        due(k.miss(0, 1, 1), 0);
        due(k.put(0, 1, 1, 6), 1);
        due(k.at(0, 1, 1, INTS), 6);
        of(7, "UNKNOWN; NULL; INDEX, as put().");
        for (int t : NO_TABLES) {
            refusedByOneOfFaults(Sentences::lived, f -> f.miss(t, 0, 0), UNKNOWN);
        }
        faulted(Sentences::lived, f -> f.miss(2, 0, 0), NULL);
        faulted(Sentences::lived, f -> f.miss(3, -1, -1), NULL);
        for (int none : new int[] {-1, 3, 8, 24, MIN, MAX}) {
            faulted(Sentences::lived, f -> f.miss(0, 0, none), INDEX);
            faulted(Sentences::lived, f -> f.miss(0, none, 0), INDEX);
            faulted(Sentences::lived, f -> f.miss(0, none, none), INDEX);
        }
        faulted(f -> sized(f, 0, 8, 24), f -> f.miss(0, 24, 0), INDEX);
        faulted(f -> sized(f, 0, 8, 24), f -> f.miss(0, 0, 8), INDEX);
    }

    private static void at() {
        of(8, "A cell's value, its column taken as of a LANE;");
        Finder k = new Finder();
        lanes(k);
        for (int lane = 0; lane < 6; lane++) {
            due(k.at(0, 1, lane, lane), 10 + lane);
            due(k.fault(), 0);
        }
        of(8, "LOST: it is missing.");
        for (int lane = 0; lane < 6; lane++) {
            due(k.at(0, 0, lane, lane), LOST);
            due(k.fault(), 0);
        }
        due(k.miss(0, 1, 3), 1);
        due(k.at(0, 1, 3, 3), LOST);
        due(k.fault(), 0);
    }

    private static void atFaults() {
        of(8, "LOST: UNKNOWN, OUTSIDE: lane.");
        for (int t : NO_TABLES) {
            lost(Sentences::lived, k -> k.at(t, 0, 0, INTS), 0);
        }
        for (int lane : new int[] {-1, 6, MIN, MAX}) {
            lost(Sentences::lived, k -> k.at(0, 0, 0, lane), 0);
            lost(Sentences::lived, k -> k.at(2, 0, 0, lane), 0);
            lost(Sentences::lived, k -> k.at(0, 9, 9, lane), 0);
        }
        of(8, "NULL; INDEX: column; CAST; INDEX: row.");
        lost(Sentences::lived, k -> k.at(2, 0, 0, INTS), 1);
        lost(Sentences::lived, k -> k.at(3, 0, -1, BYTES), 1);
        for (int none : new int[] {-1, 3, 8, MIN, MAX}) {
            lost(Sentences::lived, k -> k.at(0, 0, none, INTS), 3);
            lost(Sentences::lived, k -> k.at(0, 0, none, BYTES), 3);
            lost(Sentences::lived, k -> k.at(0, none, none, BYTES), 3);
            // A row that is not there is come to behind the LANE.
            lost(Sentences::lived, k -> k.at(0, none, 0, INTS), 3);
            lost(Sentences::lived, k -> k.at(0, none, 0, BYTES), 2);
        }
        for (int column = 0; column < 6; column++) {
            for (int lane = 0; lane < 6; lane++) {
                Finder k = new Finder();
                lanes(k);
                due(k.at(0, 1, column, lane), column == lane ? 10 + lane : LOST);
                due(k.fault(), column == lane ? 0 : 2);
            }
        }
        lost(k -> sized(k, 0, 0, 0), k -> k.at(0, 0, 0, INTS), 3);
        lost(k -> sized(k, 0, 1, 0), k -> k.at(0, 0, 0, INTS), 3);
        lost(k -> sized(k, 0, 1, 0), k -> k.at(0, 0, 0, LONGS), 2);
        lost(k -> sized(k, 0, 8, 24), k -> k.at(0, 24, 7, INTS), 3);
    }

    private static void copy() {
        of(9, "n cells of a column from row i on (with what is missing) go to another one (perhaps the same) of the same TABLE "
                + "from row j on, as they were: n.");
        Finder k = with(true, cells(1, 91, 71), cells(null, 92, 72), cells(3, 93, 73), cells(4, null, 74));
        due(k.copy(0, 0, 1, 1, 0, 2), 2);
        due(k.fault(), 0);
        cellsAre(k, 0, INTS, new long[][] {{1, LOST, 71}, {LOST, 3, 72}, {3, 93, 73}, {4, LOST, 74}});
        // To the last row, and not beyond: the next column, and what stands behind, stay.
        due(k.copy(0, 0, 2, 1, 2, 2), 2);
        cellsAre(k, 0, INTS, new long[][] {{1, LOST, 71}, {LOST, 3, 72}, {3, 3, 73}, {4, 4, 74}});
        due(k.copy(0, 2, 0, 0, 3, 1), 1);
        cellsAre(k, 0, INTS, new long[][] {{1, LOST, 71}, {LOST, 3, 72}, {3, 3, 73}, {71, 4, 74}});
        // Within one column, as they were: down, up, and onto itself.
        due(k.copy(0, 0, 0, 0, 1, 3), 3);
        cellsAre(k, 0, INTS, new long[][] {{1, LOST, 71}, {1, 3, 72}, {LOST, 3, 73}, {3, 4, 74}});
        due(k.copy(0, 0, 1, 0, 0, 3), 3);
        cellsAre(k, 0, INTS, new long[][] {{1, LOST, 71}, {LOST, 3, 72}, {3, 3, 73}, {3, 4, 74}});
        due(k.copy(0, 0, 0, 0, 0, 4), 4);
        cellsAre(k, 0, INTS, new long[][] {{1, LOST, 71}, {LOST, 3, 72}, {3, 3, 73}, {3, 4, 74}});
        // None at all, all that there are.
        due(k.copy(0, 0, 2, 1, 3, 0), 0);
        due(k.fault(), 0);
        due(k.copy(0, 2, 0, 1, 0, 4), 4);
        cellsAre(k, 0, INTS, new long[][] {{1, 71, 71}, {LOST, 72, 72}, {3, 73, 73}, {3, 74, 74}});
        allCopied();
    }

    private static void allCopied() {
        Finder k = new Finder();
        sized(k, 0, 8, 24);
        for (int r = 0; r < 24; r++) {
            due(k.put(0, r, 0, r), 1);
        }
        due(k.copy(0, 0, 0, 7, 0, 24), 24);
        due(k.copy(0, 7, 0, 7, 1, 23), 23);
        due(k.about(0, 3), 144);
        for (int r = 0; r < 24; r++) {
            due(k.at(0, r, 7, INTS), Math.max(0, r - 1));
            due(k.at(0, r, 0, INTS), r);
        }
    }

    private static void copyRefusals() {
        of(9, "UNKNOWN: TABLE, columns;");
        for (int t : NO_TABLES) {
            refusedByOneOfFaults(Sentences::lived, k -> k.copy(t, 0, 0, 1, 0, 1), UNKNOWN);
        }
        refusedByOneOfFaults(Sentences::lived, k -> k.copy(2, 0, 0, 1, 0, 1), UNKNOWN);
        for (int column : new int[] {-1, 3, 8, MIN, MAX}) {
            refusedByOneOfFaults(Sentences::lived, k -> k.copy(0, column, 0, 1, 0, 1), UNKNOWN);
            refusedByOneOfFaults(Sentences::lived, k -> k.copy(0, 1, 0, column, 0, 1), UNKNOWN);
            refusedByOneOfFaults(Sentences::lived, k -> k.copy(0, column, -1, column, 0, 99), UNKNOWN);
        }
        of(9, "STATE: unlike LANES;");
        for (int from = 0; from < 6; from++) {
            for (int to = 0; to < 6; to++) {
                Finder k = new Finder();
                lanes(k);
                due(k.copy(0, from, 1, to, 0, 1), from == to ? 1 : STATE);
                due(k.about(0, 3), from == to ? 5 : 6);
            }
        }
        refusedByOneOfFaults(KeyFinderTablesTest::lanes, k -> k.copy(0, 2, 1, 3, 0, 1), STATE);
        refusedByOneOfFaults(KeyFinderTablesTest::lanes, k -> k.copy(0, 3, 1, 4, 0, -1), STATE);
        refusedByOneOfFaults(KeyFinderTablesTest::lanes, k -> k.copy(0, 3, 1, 4, 0, 0), STATE);
        copyBeyond();
    }

    private static void copyBeyond() {
        of(9, "INDEX: i, j, n below 0, or beyond the rows.");
        int[][] beyond = {{-1, 0, 1}, {0, -1, 1}, {0, 0, -1}, {0, 0, 4}, {3, 0, 1}, {0, 3, 1}, {2, 0, 2}, {0, 2, 2}, {1, 0, 3},
            {0, 1, 3}, {4, 0, 0}, {0, 4, 0}, {-1, 0, 0}, {0, -1, 0}, {MAX, 0, 1}, {0, MAX, 1}, {0, 0, MAX}, {1, 0, MAX},
            {0, 1, MAX}, {MAX, MAX, MAX}, {MIN, 0, 1}, {0, MIN, 1}, {0, 0, MIN}, {MIN, MIN, MIN}, {2, 2, -1}, {MIN, 0, MAX},
            {MAX, 0, MIN}, {3, 3, MIN}};
        for (int[] b : beyond) {
            faulted(Sentences::lived, k -> k.copy(0, 0, b[0], 1, b[1], b[2]), INDEX);
        }
        faulted(Sentences::lived, k -> k.copy(0, 0, 0, 0, 1, 3), INDEX);
        faulted(k -> sized(k, 0, 2, 0), k -> k.copy(0, 0, 0, 1, 0, 1), INDEX);
        faulted(k -> sized(k, 0, 2, 24), k -> k.copy(0, 0, 0, 1, 0, 25), INDEX);
        faulted(k -> sized(k, 0, 2, 24), k -> k.copy(0, 0, 1, 1, 0, 24), INDEX);
        faulted(k -> sized(k, 0, 2, 24), k -> k.copy(0, 0, 0, 1, 1, 24), INDEX);
        Finder k = new Finder();
        sized(k, 0, 1, 0);
        due(k.copy(0, 0, 0, 0, 0, 0), 0);
        due(k.fault(), 0);
    }

    private static void about() {
        of(10, "Of a TABLE: 0 how many columns, 1 rows, 2 whether missing ones are like (1, 0), 3 cells that are missing;");
        int[][] sizes = {{0, 0}, {0, 24}, {8, 0}, {8, 24}, {1, 1}, {3, 5}};
        for (int[] size : sizes) {
            Finder k = new Finder();
            sized(k, 0, size[0], size[1]);
            due(k.about(0, 0), size[0]);
            due(k.about(0, 1), size[1]);
            due(k.about(0, 2), 1);
            due(k.about(0, 3), size[0] * size[1]);
        }
        Finder k = new Finder();
        due(k.table(3, false), 1);
        due(k.about(3, 2), 0);
        due(k.table(3, true), 1);
        due(k.about(3, 2), 1);
        k = with(true, cells(0, null), cells(null, null), cells(5, 6));
        due(k.about(0, 3), 3);
        due(k.put(0, 1, 0, 1), 1);
        due(k.put(0, 1, 1, 1), 1);
        due(k.put(0, 0, 1, 1), 1);
        due(k.about(0, 3), 0);
        due(k.miss(0, 2, 1), 1);
        due(k.about(0, 3), 1);
        of(10, "4 and c: the LANE of column c.");
        k = new Finder();
        due(k.table(0, true), 1);
        for (int c = 0; c < 8; c++) {
            due(k.column(0, (7 - c) % 6), c);
        }
        for (int c = 0; c < 8; c++) {
            due(k.about(0, 4 + c), (7 - c) % 6);
        }
        of(10, "UNKNOWN; OUTSIDE.");
        for (int t : NO_TABLES) {
            refused(Sentences::lived, f -> f.about(t, 0), UNKNOWN);
        }
        refused(Sentences::lived, f -> f.about(2, 0), UNKNOWN);
        for (int what : new int[] {-1, 7, 12, MIN, MAX}) {
            refused(Sentences::lived, f -> f.about(0, what), OUTSIDE);
        }
        due(k.about(0, 12), OUTSIDE);
        due(k.table(0, true), 1);
        due(k.about(0, 4), OUTSIDE);
    }

    private static void like() {
        of(11, "Whether two rows are LIKE in a set (columns that the TABLE has not are not looked at): 1, 0.");
        Finder k = with(true, cells(1, 2), cells(1, 3), cells(1, 2));
        due(k.like(0, 0, 1, 1), 1);
        due(k.like(0, 0, 1, 2), 0);
        due(k.like(0, 0, 1, 3), 0);
        due(k.like(0, 0, 2, 3), 1);
        due(k.like(0, 1, 1, 3), 1);
        due(k.like(0, 0, 1, 0), 1);
        due(k.like(0, 0, 1, 253), 1);
        due(k.like(0, 0, 1, 252), 1);
        due(k.like(0, 0, 1, 255), 0);
        due(k.like(0, 0, 2, 255), 1);
        // What stood there before, in columns that are there no more, is not looked at.
        k = with(false, cells(1, 2, 3), cells(1, 2, 4));
        fill(k, 0, false, INTS, cells(1, 2), cells(1, 2));
        due(k.like(0, 0, 1, 255), 1);
        due(k.like(0, 0, 1, 4), 1);
        sized(k, 0, 0, 24);
        due(k.like(0, 0, 23, 255), 1);
        // The first and the last of 24 rows, the last of eight columns.
        sized(k, 1, 8, 24);
        due(k.like(1, 0, 23, 255), 1);
        due(k.put(1, 23, 7, 0), 1);
        due(k.like(1, 0, 23, 255), 0);
        due(k.like(1, 23, 0, 128), 0);
        due(k.like(1, 0, 23, 127), 1);
        of(11, "UNKNOWN;");
        for (int t : NO_TABLES) {
            refused(Sentences::lived, f -> f.like(t, 0, 1, 1), UNKNOWN);
        }
        refused(Sentences::lived, f -> f.like(2, 0, 0, 0), UNKNOWN);
        for (int row : new int[] {-1, 3, 24, MIN, MAX}) {
            refused(Sentences::lived, f -> f.like(0, row, 1, 1), UNKNOWN);
            refused(Sentences::lived, f -> f.like(0, 1, row, 1), UNKNOWN);
            refused(Sentences::lived, f -> f.like(0, row, row, 256), UNKNOWN);
        }
        of(11, "OUTSIDE: set.");
        for (int set : new int[] {-1, 256, MIN, MAX}) {
            refused(Sentences::lived, f -> f.like(0, 0, 1, set), OUTSIDE);
        }
    }
}
