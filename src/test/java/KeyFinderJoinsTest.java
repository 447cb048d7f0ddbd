/** The sentences of promises 39 to 42: tables parted and joined, and what is told; and the 512 calls of an object. */
public final class KeyFinderJoinsTest extends Sentences {
    private static final int[] NO_TABLES = {-1, 4, MIN, MAX};
    private static final int[] NO_SETS = {-1, 256, MIN, MAX};

    public static void main(String[] args) {
        project();
        projectRows();
        projectUnknown();
        projectOutside();
        projectState();
        join();
        joinCommon();
        joinEdges();
        joinUnknown();
        joinOutside();
        joinState();
        joinFull();
        fault();
        faultStays();
        told();
        toldOutside();
        lastCalls();
        end(39, 42);
    }

    // ---- project

    private static void project() {
        of(39, "A TABLE becomes what another one has in a set: its columns, rising,");
        Finder k = new Finder();
        due(k.table(0, true), 1);
        for (int c = 0; c < 8; c++) {
            due(k.column(0, c % 6), c);
        }
        due(k.rows(0, 1), 1);
        for (int c = 0; c < 7; c++) {
            due(k.put(0, 0, c, 20 + c), 1);
        }
        due(k.project(0, 255, 1), 1);
        due(k.about(1, 0), 8);
        due(k.project(0, 178, 3), 1);
        due(k.about(3, 0), 4);
        int[] columns = {1, 4, 5, 7};
        for (int c = 0; c < 4; c++) {
            due(k.about(3, 4 + c), columns[c] % 6);
            due(k.at(3, 0, c, columns[c] % 6), columns[c] == 7 ? LOST : 20 + columns[c]);
            due(k.fault(), 0);
        }
        due(k.about(3, 3), 1);
        // What was there goes, larger or smaller, and t stays.
        due(k.project(0, 128, 1), 1);
        due(k.about(1, 0), 1);
        due(k.about(1, 4), 1);
        due(k.at(1, 0, 0, SHORTS), LOST);
        due(k.about(0, 0), 8);
        due(k.about(0, 3), 1);
        // It is a TABLE of its own.
        due(k.put(1, 0, 0, 5), 1);
        due(k.at(0, 0, 7, SHORTS), LOST);
        due(k.drop(0), 1);
        due(k.at(1, 0, 0, SHORTS), 5);
        due(k.rows(1, 23), 24);
    }

    private static void projectRows() {
        of(39, "its rows, each once (of rows LIKE in all of these the first): how many rows.");
        Long[][] rows = {cells(1, 9, null), cells(2, 8, null), cells(1, 7, null), cells(1, 9, 5), cells(2, 8, null)};
        Finder k = with(true, rows);
        due(k.project(0, 1, 1), 2);
        cellsAre(k, 1, INTS, new long[][] {{1}, {2}});
        due(k.project(0, 4, 1), 2);
        cellsAre(k, 1, INTS, new long[][] {{LOST}, {5}});
        due(k.project(0, 3, 1), 3);
        cellsAre(k, 1, INTS, new long[][] {{1, 9}, {2, 8}, {1, 7}});
        due(k.project(0, 7, 1), 4);
        cellsAre(k, 1, INTS, new long[][] {{1, 9, LOST}, {2, 8, LOST}, {1, 7, LOST}, {1, 9, 5}});
        due(k.about(1, 2), 1);
        // Where missing ones are not like, no rows that have one are LIKE.
        k = with(false, rows);
        due(k.project(0, 4, 1), 5);
        cellsAre(k, 1, INTS, new long[][] {{LOST}, {LOST}, {LOST}, {5}, {LOST}});
        due(k.project(0, 1, 1), 2);
        due(k.about(1, 2), 0);
        // None, one, all 24.
        sized(k, 0, 2, 0);
        due(k.project(0, 3, 1), 0);
        due(k.about(1, 0), 2);
        due(k.about(1, 1), 0);
        sized(k, 0, 2, 24);
        due(k.project(0, 3, 1), 1);
        for (int r = 0; r < 24; r++) {
            due(k.put(0, r, 1, r), 1);
        }
        due(k.project(0, 2, 1), 24);
        due(k.at(1, 23, 0, INTS), 23);
        due(k.project(0, 1, 1), 1);
    }

    private static void projectUnknown() {
        of(39, "UNKNOWN: t, no TABLE u of 0 .. 3;");
        for (int t : new int[] {-1, 4, 2, MIN, MAX}) {
            refused(Sentences::lived, k -> k.project(t, 1, 3), UNKNOWN);
            refused(Sentences::lived, k -> k.project(t, 1, 1), UNKNOWN);
        }
        for (int u : NO_TABLES) {
            refused(Sentences::lived, k -> k.project(0, 1, u), UNKNOWN);
        }
        // u need not be there, and may be.
        for (int u = 1; u < 4; u++) {
            Finder k = new Finder();
            lived(k);
            due(k.project(0, 1, u), 2);
            due(k.about(u, 0), 1);
        }
    }

    private static void projectOutside() {
        of(39, "OUTSIDE: the set;");
        for (int set : NO_SETS) {
            refused(Sentences::lived, k -> k.project(0, set, 1), OUTSIDE);
            refused(Sentences::lived, k -> k.project(0, set, 0), OUTSIDE);
        }
    }

    private static void projectState() {
        of(39, "STATE: it is empty, has columns that t has not; u is t.");
        refused(Sentences::lived, k -> k.project(0, 0, 1), STATE);
        for (int set : new int[] {8, 9, 15, 128, 255}) {
            refused(Sentences::lived, k -> k.project(0, set, 1), STATE);
        }
        refused(Sentences::lived, k -> k.project(1, 4, 0), STATE);
        refused(Sentences::lived, k -> k.project(0, 1, 0), STATE);
        refused(Sentences::lived, k -> k.project(1, 3, 1), STATE);
        refused(k -> sized(k, 0, 0, 3), k -> k.project(0, 0, 1), STATE);
        refused(k -> sized(k, 0, 0, 3), k -> k.project(0, 1, 1), STATE);
    }

    // ---- join

    private static void join() {
        of(40, "A TABLE w becomes the join of t, taken as having the columns of a set x, rising, and u, of y likewise: "
                + "columns of x or y, rising;");
        Finder k = new Finder();
        due(k.table(0, true), 1);
        due(k.column(0, BYTES), 0);
        due(k.column(0, CHARS), 1);
        due(k.rows(0, 1), 1);
        due(k.put(0, 0, 0, 1), 1);
        due(k.put(0, 0, 1, 7), 1);
        due(k.table(1, true), 1);
        due(k.column(1, LONGS), 0);
        due(k.column(1, CHARS), 1);
        due(k.column(1, DOUBLES), 2);
        due(k.rows(1, 1), 1);
        due(k.put(1, 0, 0, 4), 1);
        due(k.put(1, 0, 1, 7), 1);
        // TABLE 0 as columns 3, 5; TABLE 1 as columns 0, 5, 7: the join has 0, 3, 5, 7.
        due(k.join(0, 40, 1, 161, 2), 1);
        due(k.about(2, 0), 4);
        int[] lanes = {LONGS, BYTES, CHARS, DOUBLES};
        long[] values = {4, 1, 7, LOST};
        for (int c = 0; c < 4; c++) {
            due(k.about(2, 4 + c), lanes[c]);
            due(k.at(2, 0, c, lanes[c]), values[c]);
            due(k.fault(), 0);
        }
        // The other way round it is the same; joined into a TABLE that is there, this goes.
        due(k.join(1, 161, 0, 40, 2), 1);
        due(k.about(2, 0), 4);
        due(k.at(2, 0, 1, BYTES), 1);
        due(k.drop(2), 1);
        due(k.join(1, 161, 0, 40, 3), 1);
        due(k.at(3, 0, 2, CHARS), 7);
        due(k.about(2, 0), UNKNOWN);
        // t and u stay as they are.
        due(k.about(0, 0), 2);
        due(k.about(1, 0), 3);
        due(k.at(0, 0, 1, CHARS), 7);
    }

    private static void joinCommon() {
        of(40, "for each row of t, then of u, LIKE in what x and y have in common (as t takes missing ones), one (t's cells there): how many rows.");
        for (int areLike = 0; areLike < 2; areLike++) {
            Finder k = with(areLike == 1, cells(1, 10), cells(2, null), cells(3, 10));
            fill(k, 1, areLike == 0, INTS, cells(10, 5), cells(null, 6), cells(10, 7));
            // TABLE 0 has columns 0, 1, TABLE 1 has 1, 2.
            if (areLike == 1) {
                due(k.join(0, 3, 1, 6, 2), 5);
                cellsAre(k, 2, INTS, new long[][] {{1, 10, 5}, {1, 10, 7}, {2, LOST, 6}, {3, 10, 5}, {3, 10, 7}});
            } else {
                due(k.join(0, 3, 1, 6, 2), 4);
                cellsAre(k, 2, INTS, new long[][] {{1, 10, 5}, {1, 10, 7}, {3, 10, 5}, {3, 10, 7}});
            }
            due(k.about(2, 2), areLike);
            // The other way round TABLE 1 says how missing ones are taken, and its rows come first.
            due(k.join(1, 6, 0, 3, 3), areLike == 0 ? 5 : 4);
            due(k.at(3, 0, 0, INTS), 1);
            due(k.at(3, 1, 0, INTS), 3);
            due(k.at(3, 0, 2, INTS), 5);
            due(k.at(3, 1, 2, INTS), 5);
            due(k.about(3, 2), 1 - areLike);
        }
        // All in common: only those that both have; one row for each two that are LIKE.
        Finder k = with(true, cells(1, 1), cells(2, 2), cells(2, 2), cells(3, null));
        fill(k, 1, true, INTS, cells(2, 2), cells(3, null), cells(1, 2));
        due(k.join(0, 3, 1, 3, 2), 3);
        cellsAre(k, 2, INTS, new long[][] {{2, 2}, {2, 2}, {3, LOST}});
        due(k.join(0, 129, 1, 129, 2), 3);
        // Several in common: all of them have to be alike.
        fill(k, 3, true, INTS, cells(1, 2, 5), cells(2, 2, 6));
        due(k.join(0, 3, 3, 7, 2), 2);
        cellsAre(k, 2, INTS, new long[][] {{2, 2, 6}, {2, 2, 6}});
    }

    private static void joinEdges() {
        of(40, "for each row of t, then of u, LIKE in what x and y have in common (as t takes missing ones), one (t's cells there): how many rows.");
        // Nothing in common: each with each, t's rows first.
        Finder k = with(true, cells(1), cells(2));
        fill(k, 1, true, INTS, cells(7), cells(8), cells(9));
        due(k.join(0, 2, 1, 1, 2), 6);
        cellsAre(k, 2, INTS, new long[][] {{7, 1}, {8, 1}, {9, 1}, {7, 2}, {8, 2}, {9, 2}});
        // t with itself, by all and by none.
        due(k.join(0, 1, 0, 1, 2), 2);
        cellsAre(k, 2, INTS, new long[][] {{1}, {2}});
        due(k.join(0, 1, 0, 128, 2), 4);
        cellsAre(k, 2, INTS, new long[][] {{1, 1}, {1, 2}, {2, 1}, {2, 2}});
        // No rows on either side.
        sized(k, 3, 1, 0);
        due(k.join(0, 1, 3, 2, 2), 0);
        due(k.about(2, 0), 2);
        due(k.about(2, 1), 0);
        due(k.join(3, 1, 0, 2, 2), 0);
        // No columns: the empty set.
        sized(k, 3, 0, 2);
        due(k.join(3, 0, 0, 1, 2), 4);
        cellsAre(k, 2, INTS, new long[][] {{1}, {2}, {1}, {2}});
        due(k.join(3, 0, 3, 0, 2), 4);
        due(k.about(2, 0), 0);
        // All eight columns, and 24 rows.
        sized(k, 0, 4, 4);
        sized(k, 1, 4, 6);
        due(k.put(0, 3, 3, 33), 1);
        due(k.put(1, 5, 0, 44), 1);
        due(k.join(0, 15, 1, 240, 2), 24);
        due(k.about(2, 0), 8);
        due(k.about(2, 3), 192 - 6 - 4);
        due(k.at(2, 23, 3, INTS), 33);
        due(k.at(2, 23, 4, INTS), 44);
        due(k.at(2, 5, 4, INTS), 44);
        due(k.at(2, 18, 3, INTS), 33);
        due(k.at(2, 17, 3, INTS), LOST);
    }

    private static void joinUnknown() {
        of(40, "UNKNOWN: t, u, no TABLE w of 0 .. 3;");
        for (int none : new int[] {-1, 4, 2, MIN, MAX}) {
            refused(Sentences::lived, k -> k.join(none, 3, 1, 3, 3), UNKNOWN);
            refused(Sentences::lived, k -> k.join(1, 3, none, 3, 3), UNKNOWN);
        }
        for (int w : NO_TABLES) {
            refused(Sentences::lived, k -> k.join(1, 3, 1, 3, w), UNKNOWN);
        }
        // w need not be there, and may be.
        for (int w : new int[] {0, 2, 3}) {
            Finder k = new Finder();
            lived(k);
            due(k.join(1, 3, 1, 12, w), 4);
            due(k.about(w, 1), 4);
        }
    }

    private static void joinOutside() {
        of(40, "OUTSIDE: x, y;");
        for (int set : NO_SETS) {
            refused(Sentences::lived, k -> k.join(0, set, 1, 3, 2), OUTSIDE);
            refused(Sentences::lived, k -> k.join(0, 7, 1, set, 2), OUTSIDE);
            refused(Sentences::lived, k -> k.join(0, set, 1, set, 0), OUTSIDE);
        }
    }

    private static void joinState() {
        of(40, "STATE: they have not as many columns;");
        for (int set : new int[] {0, 1, 3, 15, 255}) {
            refused(Sentences::lived, k -> k.join(0, set, 1, 3, 2), STATE);
        }
        for (int set : new int[] {0, 1, 7, 255}) {
            refused(Sentences::lived, k -> k.join(0, 7, 1, set, 2), STATE);
        }
        refused(k -> sized(k, 0, 0, 1), k -> k.join(0, 1, 0, 0, 1), STATE);
        of(40, "common columns of unlike LANES;");
        refused(KeyFinderJoinsTest::lanes, k -> k.join(0, 3, 1, 3, 2), STATE);
        refused(KeyFinderJoinsTest::lanes, k -> k.join(0, 3, 1, 5, 2), STATE);
        refused(KeyFinderJoinsTest::lanes, k -> k.join(0, 192, 1, 160, 2), STATE);
        // INTS, LONGS and LONGS, BYTES: only LONGS may be had in common.
        Finder k = new Finder();
        lanes(k);
        due(k.join(0, 3, 1, 12, 2), 1);
        due(k.join(0, 3, 1, 6, 2), 1);
        due(k.join(1, 6, 0, 3, 2), 1);
        fill(k, 3, true, LONGS, cells(2, 1));
        due(k.join(0, 24, 3, 48, 2), 1);
        of(40, "w is t or u;");
        refused(Sentences::lived, f -> f.join(0, 7, 1, 3, 0), STATE);
        refused(Sentences::lived, f -> f.join(0, 7, 1, 3, 1), STATE);
        refused(Sentences::lived, f -> f.join(1, 3, 1, 3, 1), STATE);
    }

    private static void lanes(Finder k) {
        due(k.table(0, true), 1);
        due(k.column(0, INTS), 0);
        due(k.column(0, LONGS), 1);
        due(k.rows(0, 1), 1);
        due(k.put(0, 0, 0, 2), 1);
        due(k.put(0, 0, 1, 2), 1);
        due(k.table(1, true), 1);
        due(k.column(1, LONGS), 0);
        due(k.column(1, BYTES), 1);
        due(k.rows(1, 1), 1);
        due(k.put(1, 0, 0, 2), 1);
        due(k.put(1, 0, 1, 2), 1);
    }

    private static void joinFull() {
        of(40, "FULL: more than 24 rows.");
        refused(k -> {
            sized(k, 0, 1, 5);
            sized(k, 1, 1, 5);
        }, k -> k.join(0, 1, 1, 2, 2), FULL);
        refused(k -> {
            sized(k, 0, 1, 24);
            sized(k, 1, 1, 24);
            sized(k, 2, 2, 3);
            due(k.put(2, 1, 1, 7), 1);
        }, k -> k.join(0, 1, 1, 1, 2), FULL);
        refused(k -> {
            sized(k, 0, 1, 1);
            sized(k, 1, 1, 24);
            due(k.rows(0, 1), 2);
        }, k -> k.join(0, 1, 1, 2, 3), FULL);
        // Just 25 rows are too many, just 24 are not: one row more of TABLE 0 meets one row of TABLE 1.
        Finder k = new Finder();
        sized(k, 0, 1, 4);
        sized(k, 1, 1, 7);
        due(k.put(0, 3, 0, 1), 1);
        due(k.put(1, 6, 0, 2), 1);
        due(k.join(0, 1, 1, 1, 2), 18);
        due(k.rows(1, 2), 9);
        due(k.join(0, 1, 1, 1, 2), 24);
        due(k.about(2, 1), 24);
        due(k.put(1, 6, 0, 1), 1);
        due(k.join(0, 1, 1, 1, 2), FULL);
        due(k.about(2, 1), 24);
        due(k.about(2, 3), 24);
    }

    // ---- what is told

    private static void fault() {
        of(41, "The FAULT of the latest call that names one:");
        Finder k = new Finder();
        due(k.put(0, 0, 0, 0), NULL);
        due(k.fault(), 1);
        due(k.fault(), 1);
        due(k.table(0, true), 1);
        due(k.column(0, INTS), 0);
        due(k.at(0, 0, 0, LONGS), LOST);
        due(k.fault(), 2);
        due(k.miss(0, 0, 0), INDEX);
        due(k.fault(), 3);
        due(k.rows(0, -1), SIZE);
        due(k.fault(), 4);
        due(k.copy(0, 0, 0, 0, 0, 1), INDEX);
        due(k.fault(), 3);
        due(k.law(TELLS, 1, 1), 0);
        due(k.say(0, NEVER, 0), CAST);
        due(k.fault(), 2);
        of(41, "0: it came to none, or was refused (0 ahead of any).");
        due(new Finder().fault(), 0);
        Call[] fine = {f -> f.rows(0, 1), f -> f.put(0, 0, 0, 5), f -> f.miss(0, 0, 0), f -> f.miss(0, 0, 0),
            f -> f.at(0, 0, 0, INTS), f -> f.copy(0, 0, 0, 1, 0, 1), f -> f.say(0, TELLS, 0)};
        Call[] refused = {f -> f.rows(2, 1), f -> f.rows(0, 25), f -> f.rows(0, 22), f -> f.put(4, 0, 0, 5), f -> f.miss(-1, 0, 0),
            f -> f.at(4, 0, 0, INTS), f -> f.at(0, 0, 0, 6), f -> f.copy(2, 0, 0, 1, 0, 1), f -> f.copy(0, 0, 0, 3, 0, 1),
            f -> f.say(8, TELLS, 0), f -> f.say(0, TELLS, 3)};
        k = new Finder();
        lived(k);
        for (Call[] calls : new Call[][] {fine, refused}) {
            for (Call call : calls) {
                due(k.rows(0, -1), SIZE);
                due(k.fault(), 4);
                call.on(k);
                due(k.fault(), 0);
            }
        }
    }

    private static void faultStays() {
        of(41, "The FAULT of the latest call that names one:");
        // None of these names any FAULT.
        Call[] others = {f -> f.table(3, true), f -> f.table(4, true), f -> f.column(3, INTS), f -> f.column(3, 6), f -> f.drop(3),
            f -> f.drop(4), f -> f.about(0, 0), f -> f.about(2, 0), f -> f.like(0, 0, 1, 1), f -> f.like(0, 9, 1, 1),
            f -> f.law(TELLS, 1, 2), f -> f.law(6, 1, 2), f -> f.unlaw(8), f -> f.unlaw(99), f -> f.hold(0, 0), f -> f.hold(0, 6),
            f -> f.broken(0), f -> f.broken(2), f -> f.find(0), f -> f.find(2), f -> f.found(0, 0), f -> f.found(9, 0),
            f -> f.misses(0, 1, 2), f -> f.misses(0, 8, 2), f -> f.twice(0, 1, 2), f -> f.twice(0, 256, 2), f -> f.width(4),
            f -> f.width(9), f -> f.closure(1), f -> f.closure(16), f -> f.follows(1, 2), f -> f.follows(1, 16), f -> f.step(0),
            f -> f.step(9), f -> f.keys(), f -> f.key(0), f -> f.key(9), f -> f.prime(), f -> f.cover(), f -> f.covered(0, 0),
            f -> f.covered(9, 0), f -> f.third(), f -> f.strict(), f -> f.part(1), f -> f.part(16), f -> f.unpart(),
            f -> f.parted(0), f -> f.form(1), f -> f.form(0), f -> f.lossless(), f -> f.lack(), f -> f.keeps(0), f -> f.keeps(99),
            f -> f.project(0, 1, 3), f -> f.project(0, 8, 3), f -> f.join(1, 3, 1, 3, 3), f -> f.join(1, 7, 1, 3, 3),
            f -> f.fault(), f -> f.told(0), f -> f.told(6)};
        Finder k = new Finder();
        lived(k);
        due(k.rows(0, -1), SIZE);
        for (Call call : others) {
            call.on(k);
            due(k.fault(), 4);
        }
    }

    private static void told() {
        of(42, "How many: 0 LAWS ever, 1 in force, 2 FOUND, 3 PARTS, 4 STEPS, 5 WIDTH.");
        Finder k = new Finder();
        lived(k);
        toldIs(k, 8, 2, 2, 2, 1, 4);
        due(k.law(KEY, 0, 0), 8);
        toldIs(k, 9, 3, 2, 2, 1, 4);
        due(k.law(ORDER, 1, 1), 9);
        toldIs(k, 10, 3, 2, 2, 1, 4);
        due(k.unlaw(8), 1);
        toldIs(k, 10, 2, 2, 2, 1, 4);
        due(k.unlaw(9), 1);
        toldIs(k, 10, 2, 2, 2, 1, 4);
        due(k.find(1), 2);
        due(k.table(1, true), 1);
        due(k.find(1), 0);
        toldIs(k, 10, 2, 0, 2, 1, 4);
        due(k.part(1), 3);
        toldIs(k, 10, 2, 0, 3, 1, 4);
        due(k.follows(0, 0), 1);
        toldIs(k, 10, 2, 0, 3, 0, 4);
        due(k.width(8), 4);
        toldIs(k, 10, 2, 0, 0, 0, 8);
        // As many as there can be of each.
        while (k.law(TELLS, 1, 128) != FULL) {
            due(k.told(5), 8);
        }
        part(k, 1, 2, 3, 4, 5, 6, 7, 8, 9, 10, 11, 12);
        toldIs(k, 40, 32, 0, 12, 0, 8);
    }

    private static void toldIs(Finder k, int... want) {
        for (int what = 0; what < want.length; what++) {
            due(k.told(what), want[what]);
        }
    }

    private static void toldOutside() {
        of(42, "OUTSIDE.");
        for (int what : new int[] {-1, 6, MIN, MAX}) {
            refused(Sentences::lived, k -> k.told(what), OUTSIDE);
            refused(Sentences::fresh, k -> k.told(what), OUTSIDE);
        }
    }

    /** "An object is used for at most 512 calls": the last of them are answered as the first are. */
    private static void lastCalls() {
        of(42, "How many: 0 LAWS ever, 1 in force");
        Finder k = new Finder();
        lived(k);
        for (int n = k.calls.size(); n < 500; n++) {
            due(n % 2 == 0 ? k.third() : k.strict(), 1);
        }
        due(k.law(TELLS, 2, 1), 8);
        due(k.hold(0, 8), 0);
        breaksAt(k, 1, 2);
        due(k.find(0), 2);
        due(k.closure(2), 15);
        due(k.follows(2, 8), 1);
        due(k.step(0), 8);
        due(k.project(0, 7, 3), 3);
        due(k.rows(3, 21), 24);
        due(k.put(3, 23, 2, 7), 1);
        due(k.at(3, 23, 2, INTS), 7);
        due(k.calls.size(), 512);
    }
}
