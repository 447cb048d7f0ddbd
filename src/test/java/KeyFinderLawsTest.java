/** The sentences of promises 12 to 20: laws, and what holds in a table. */
public final class KeyFinderLawsTest extends Sentences {
    private static final int[] NO_TABLES = {-1, 4, MIN, MAX};
    private static final int[] NO_SETS = {-1, 256, MIN, MAX};

    public static void main(String[] args) {
        law();
        lawOutside();
        lawOfOrderAndWithin();
        lawFull();
        lawNotLookedAt();
        unlaw();
        say();
        sayRefusals();
        sayCasts();
        hold();
        holdUnknown();
        holdState();
        holdStateWithin();
        broken();
        brokenNone();
        find();
        findEdges();
        found();
        misses();
        missesRefusals();
        twice();
        end(12, 20);
    }

    private static void fullOfLaws(Finder k) {
        for (int law = 0; law < 40; law++) {
            due(k.law(TELLS, law, 255), law);
        }
    }

    private static void law() {
        of(12, "A LAW more: its number.");
        Finder k = new Finder();
        int[][] laws = {{TELLS, 255, 255}, {KEY, 255, 0}, {SEVERAL, 255, 255}, {NEVER, 255, 0}, {ORDER, 128, 128}, {WITHIN, 255, 3},
            {TELLS, 0, 0}, {KEY, 0, 0}, {SEVERAL, 0, 0}, {NEVER, 0, 0}, {ORDER, 1, 1}, {WITHIN, 0, 0}};
        for (int n = 0; n < laws.length; n++) {
            due(k.law(laws[n][0], laws[n][1], laws[n][2]), n);
            due(k.told(0), n + 1);
            due(k.say(n, laws[n][0], 0), laws[n][1]);
            due(k.say(n, laws[n][0], 2), 0);
            if (laws[n][0] != KEY && laws[n][0] != NEVER) {
                due(k.say(n, laws[n][0], 1), laws[n][2]);
            }
        }
    }

    private static void lawOutside() {
        of(12, "OUTSIDE: kind is not 0 .. 5, x, y;");
        for (int kind : new int[] {-1, 6, MIN, MAX}) {
            refused(Sentences::lived, k -> k.law(kind, 1, 1), OUTSIDE);
        }
        for (int set : NO_SETS) {
            for (int kind = 0; kind < 6; kind++) {
                int of = kind;
                refused(Sentences::lived, k -> k.law(of, set, 1), OUTSIDE);
            }
            refused(Sentences::lived, k -> k.law(TELLS, 1, set), OUTSIDE);
            refused(Sentences::lived, k -> k.law(SEVERAL, 1, set), OUTSIDE);
        }
    }

    private static void lawOfOrderAndWithin() {
        of(12, "of 4 x, y are not one column each;");
        for (int set = 0; set < 256; set++) {
            boolean one = Integer.bitCount(set) == 1;
            Finder k = new Finder();
            due(k.law(ORDER, set, 1), one ? 0 : OUTSIDE);
            due(k.law(ORDER, 128, set), one ? 1 : OUTSIDE);
        }
        for (int set : new int[] {0, 3, 255, 256, -1, 512, MIN, MAX}) {
            refused(Sentences::lived, k -> k.law(ORDER, set, 1), OUTSIDE);
            refused(Sentences::lived, k -> k.law(ORDER, 1, set), OUTSIDE);
            refused(Sentences::lived, k -> k.law(ORDER, set, set), OUTSIDE);
        }
        of(12, "of 5 y is not 0 .. 3;");
        for (int t = 0; t < 4; t++) {
            due(new Finder().law(WITHIN, 255, t), 0);
        }
        for (int t : NO_TABLES) {
            refused(Sentences::lived, k -> k.law(WITHIN, 1, t), OUTSIDE);
        }
    }

    private static void lawFull() {
        of(12, "FULL.");
        int[][] laws = {{TELLS, 1, 2}, {KEY, 1, 0}, {SEVERAL, 1, 2}, {NEVER, 1, 0}, {ORDER, 1, 2}, {WITHIN, 1, 0}};
        for (int[] law : laws) {
            refused(KeyFinderLawsTest::fullOfLaws, k -> k.law(law[0], law[1], law[2]), FULL);
        }
        refused(k -> {
            fullOfLaws(k);
            due(k.unlaw(0), 1);
            due(k.unlaw(39), 1);
        }, k -> k.law(TELLS, 1, 2), FULL);
        Finder k = new Finder();
        for (int n = 0; n < 39; n++) {
            due(k.law(TELLS, 1, 2), n);
        }
        // A refused one takes no number.
        due(k.law(TELLS, 256, 2), OUTSIDE);
        due(k.law(NEVER, 39, 0), 39);
        due(k.law(NEVER, 39, 0), FULL);
        due(k.say(39, NEVER, 0), 39);
    }

    private static void lawNotLookedAt() {
        of(12, "(1, 3: y is not looked at.)");
        for (int y : new int[] {0, 1, 255, -1, 256, MIN, MAX}) {
            Finder k = with(true, cells(1, 2, null), cells(1, 2, null), cells(2, 2, 3));
            due(k.law(KEY, 1, y), 0);
            due(k.law(NEVER, 3, y), 1);
            due(k.law(KEY, 2, y), 2);
            due(k.law(NEVER, 4, y), 3);
            due(k.hold(0, 0), 1);
            due(k.hold(0, 1), 1);
            due(k.hold(0, 2), 0);
            due(k.hold(0, 3), 0);
            due(k.closure(1), 15);
            due(k.told(1), 2);
            coverIs(k, 1, 1, 2, 0, 2, 2, 2, 3);
        }
    }

    private static void unlaw() {
        of(13, "A LAW is dropped: 1; 0: it was.");
        Finder k = new Finder();
        lived(k);
        for (int law = 0; law < 6; law++) {
            due(k.unlaw(law), 1);
            due(k.say(law, law, 2), 1);
            due(k.unlaw(law), 0);
            due(k.say(law, law, 2), 1);
        }
        due(k.unlaw(6), 0);
        due(k.told(0), 8);
        due(k.told(1), 0);
        // Its X and Y can still be told, and no other LAW goes.
        due(k.say(0, TELLS, 0), 1);
        due(k.say(0, TELLS, 1), 2);
        k = new Finder();
        fullOfLaws(k);
        due(k.unlaw(39), 1);
        due(k.told(1), 39);
        due(k.say(38, TELLS, 2), 0);
        due(k.say(39, TELLS, 2), 1);
        due(k.unlaw(0), 1);
        due(k.told(1), 38);
        due(k.told(0), 40);
        refused(Sentences::lived, f -> f.unlaw(6), 0);
        of(13, "UNKNOWN.");
        for (int law : new int[] {-1, 8, 40, MIN, MAX}) {
            refused(Sentences::lived, f -> f.unlaw(law), UNKNOWN);
        }
        refused(Sentences::fresh, f -> f.unlaw(0), UNKNOWN);
        refused(KeyFinderLawsTest::fullOfLaws, f -> f.unlaw(40), UNKNOWN);
    }

    private static void say() {
        of(14, "Of a LAW, taken as of a KIND: 0 X, 1 Y, 2 whether it was dropped (1, 0).");
        Finder k = new Finder();
        int[][] laws = {{TELLS, 3, 12}, {SEVERAL, 255, 0}, {ORDER, 128, 1}, {WITHIN, 170, 3}, {TELLS, 0, 255}};
        for (int n = 0; n < laws.length; n++) {
            due(k.law(laws[n][0], laws[n][1], laws[n][2]), n);
        }
        for (int n = 0; n < laws.length; n++) {
            due(k.say(n, laws[n][0], 0), laws[n][1]);
            due(k.say(n, laws[n][0], 1), laws[n][2]);
            due(k.say(n, laws[n][0], 2), 0);
            due(k.unlaw(n), 1);
            due(k.say(n, laws[n][0], 0), laws[n][1]);
            due(k.say(n, laws[n][0], 1), laws[n][2]);
            due(k.say(n, laws[n][0], 2), 1);
            due(k.fault(), 0);
        }
        // X and Y are told whole, whatever the WIDTH is.
        due(k.width(1), 4);
        due(k.say(0, TELLS, 0), 3);
        due(k.say(0, TELLS, 1), 12);
    }

    private static void sayRefusals() {
        of(14, "UNKNOWN;");
        for (int law : new int[] {-1, 8, 40, MIN, MAX}) {
            refusedByOneOfFaults(Sentences::lived, k -> k.say(law, TELLS, 0), UNKNOWN);
            refusedByOneOfFaults(Sentences::lived, k -> k.say(law, 6, 3), UNKNOWN);
        }
        of(14, "OUTSIDE: as (0 .. 5), what;");
        for (int as : new int[] {-1, 6, MIN, MAX}) {
            refusedByOneOfFaults(Sentences::lived, k -> k.say(0, as, 0), OUTSIDE);
        }
        for (int what : new int[] {-1, 3, MIN, MAX}) {
            refusedByOneOfFaults(Sentences::lived, k -> k.say(0, TELLS, what), OUTSIDE);
            // Ahead of the CAST.
            refusedByOneOfFaults(Sentences::lived, k -> k.say(0, KEY, what), OUTSIDE);
        }
    }

    private static void sayCasts() {
        of(14, "CAST (a KEY may be taken as TELLS, SEVERAL as TELLS, ORDER as TELLS; others as their own).");
        for (int law = 0; law < 6; law++) {
            for (int as = 0; as < 6; as++) {
                int which = law;
                int taken = as;
                boolean may = law == as || as == TELLS && (law == KEY || law == SEVERAL || law == ORDER);
                for (int what = 0; what < 3; what++) {
                    int asked = what;
                    if (!may) {
                        faulted(Sentences::lived, k -> k.say(which, taken, asked), CAST);
                    }
                }
                if (may) {
                    Finder k = new Finder();
                    lived(k);
                    due(k.say(law, as, 0), law == NEVER ? 2 : 1);
                    due(k.fault(), 0);
                    due(k.say(law, as, 2), 0);
                    due(k.unlaw(law), 1);
                    due(k.say(law, as, 2), 1);
                }
            }
        }
        Finder k = new Finder();
        lived(k);
        due(k.say(SEVERAL, TELLS, 1), 2);
        due(k.say(ORDER, TELLS, 1), 2);
        due(k.say(WITHIN, WITHIN, 1), 1);
        // A dropped one is cast as before.
        faulted(Sentences::lived, f -> f.say(6, KEY, 2), CAST);
        faulted(Sentences::lived, f -> f.say(7, TELLS, 2), CAST);
    }

    private static void hold() {
        of(15, "Whether a LAW HOLDS in a TABLE: 1, 0.");
        Finder k = new Finder();
        lived(k);
        int[] holds = {0, 0, 1, 1, 0, 1};
        int[] first = {0, 0, NONE, NONE, 1, NONE};
        int[] second = {1, 1, NONE, NONE, 0, NONE};
        for (int law = 0; law < 6; law++) {
            due(k.hold(0, law), holds[law]);
            breaksAt(k, first[law], second[law]);
        }
        // As the cells are now.
        due(k.put(0, 1, 1, 2), 1);
        due(k.hold(0, 0), 1);
        due(k.hold(0, 1), 1);
        due(k.hold(0, 4), 1);
        due(k.put(0, 2, 0, 9), 1);
        due(k.hold(0, 5), 0);
        breaksAt(k, 2, NONE);
        due(k.miss(0, 1, 1), 1);
        due(k.hold(0, 3), 0);
        breaksAt(k, 1, NONE);
        // In each of the TABLES.
        due(k.table(3, true), 1);
        due(k.column(3, INTS), 0);
        due(k.column(3, INTS), 1);
        for (int law = 0; law < 6; law++) {
            due(k.hold(3, law), 1);
        }
    }

    private static void holdUnknown() {
        of(15, "UNKNOWN;");
        for (int t : new int[] {-1, 4, 2, 3, MIN, MAX}) {
            refused(Sentences::lived, k -> k.hold(t, 0), UNKNOWN);
            refused(Sentences::lived, k -> k.hold(t, 6), UNKNOWN);
            refused(Sentences::lived, k -> k.hold(t, 99), UNKNOWN);
        }
        for (int law : new int[] {-1, 8, 40, MIN, MAX}) {
            refused(Sentences::lived, k -> k.hold(0, law), UNKNOWN);
        }
    }

    private static void holdState() {
        of(15, "STATE: it was dropped;");
        for (int law = 0; law < 8; law++) {
            int dropped = law;
            refused(k -> {
                lived(k);
                k.unlaw(dropped);
            }, k -> k.hold(0, dropped), STATE);
        }
        of(15, "X or (KINDS 0, 2, 4) Y has a column that the TABLE has not;");
        for (int kind = 0; kind < 6; kind++) {
            int of = kind;
            // Column 3 is not there, column 2 is the last.
            refused(k -> {
                lived(k);
                due(k.law(of, 8, of == WITHIN ? 0 : 1), 8);
            }, k -> k.hold(0, 8), STATE);
            boolean asksY = kind == TELLS || kind == SEVERAL || kind == ORDER;
            Finder k = new Finder();
            sized(k, 0, 3, 0);
            due(k.law(kind, 4, kind == WITHIN ? 0 : 8), 0);
            due(k.hold(0, 0), asksY ? STATE : 1);
            due(k.law(kind, 4, kind == WITHIN ? 0 : 4), 1);
            due(k.hold(0, 1), 1);
        }
        for (int kind : new int[] {TELLS, SEVERAL}) {
            refused(k -> {
                lived(k);
                due(k.law(kind, 1, 10), 8);
            }, k -> k.hold(0, 8), STATE);
            refused(k -> {
                lived(k);
                due(k.law(kind, 9, 1), 8);
            }, k -> k.hold(0, 8), STATE);
        }
        refused(k -> {
            lived(k);
            due(k.law(ORDER, 1, 128), 8);
        }, k -> k.hold(0, 8), STATE);
    }

    private static void holdStateWithin() {
        of(15, "of 5 there is no TABLE Y, or it has not those columns.");
        for (int y = 2; y < 4; y++) {
            int none = y;
            refused(k -> {
                lived(k);
                due(k.law(WITHIN, 1, none), 8);
            }, k -> k.hold(0, 8), STATE);
        }
        // TABLE 1 has columns 0 and 1.
        refused(k -> {
            lived(k);
            due(k.law(WITHIN, 4, 1), 8);
        }, k -> k.hold(0, 8), STATE);
        refused(k -> {
            lived(k);
            due(k.drop(1), 1);
        }, k -> k.hold(0, 5), STATE);
        refused(k -> {
            lived(k);
            due(k.table(1, true), 1);
        }, k -> k.hold(0, 5), STATE);
        Finder k = new Finder();
        lived(k);
        due(k.law(WITHIN, 7, 0), 8);
        due(k.hold(0, 8), 1);
        due(k.hold(1, 8), STATE);
        due(k.law(WITHIN, 0, 1), 9);
        due(k.table(1, true), 1);
        due(k.hold(0, 9), 0);
    }

    private static void broken() {
        of(16, "Of the latest hold() that was not refused, where the LAW BREAKS: 0 the row i, 1 j;");
        Finder k = with(true, cells(1, 1), cells(1, 1), cells(1, 2), cells(null, 3));
        due(k.law(TELLS, 1, 2), 0);
        due(k.law(NEVER, 1, 0), 1);
        due(k.law(TELLS, 2, 1), 2);
        due(k.law(TELLS, 4, 1), 3);
        due(k.hold(0, 0), 0);
        breaksAt(k, 0, 2);
        due(k.hold(0, 1), 0);
        breaksAt(k, 3, NONE);
        due(k.hold(0, 0), 0);
        due(k.hold(0, 3), STATE);
        breaksAt(k, 0, 2);
        due(k.hold(0, 9), UNKNOWN);
        breaksAt(k, 0, 2);
        due(k.hold(9, 0), UNKNOWN);
        breaksAt(k, 0, 2);
        // What becomes of the TABLE and the LAW later does not matter.
        due(k.put(0, 2, 1, 1), 1);
        due(k.unlaw(0), 1);
        due(k.find(0), 2);
        breaksAt(k, 0, 2);
        due(k.drop(0), 1);
        breaksAt(k, 0, 2);
    }

    private static void brokenNone() {
        of(16, "NONE: it HOLDS, it has no j, ahead of any.");
        Finder k = new Finder();
        breaksAt(k, NONE, NONE);
        due(k.hold(0, 0), UNKNOWN);
        breaksAt(k, NONE, NONE);
        fill(k, 0, true, INTS, cells(1, 2), cells(1, 3), cells(null, 4));
        due(k.law(TELLS, 1, 2), 0);
        due(k.law(TELLS, 2, 1), 1);
        due(k.law(NEVER, 1, 0), 2);
        due(k.law(WITHIN, 1, 1), 3);
        due(k.hold(0, 0), 0);
        breaksAt(k, 0, 1);
        due(k.hold(0, 1), 1);
        breaksAt(k, NONE, NONE);
        due(k.hold(0, 0), 0);
        due(k.hold(0, 2), 0);
        breaksAt(k, 2, NONE);
        due(k.hold(0, 0), 0);
        sized(k, 1, 1, 0);
        due(k.hold(0, 3), 0);
        breaksAt(k, 0, NONE);
        of(16, "OUTSIDE.");
        for (int what : new int[] {-1, 2, MIN, MAX}) {
            refused(Sentences::lived, f -> f.broken(what), OUTSIDE);
            refused(Sentences::fresh, f -> f.broken(what), OUTSIDE);
        }
    }

    private static void find() {
        of(17, "All TELLS laws of one column told, not in X, that HOLD in a TABLE, and no less X has such a one: "
                + "they are FOUND, by the column told, then by X as a number: how many.");
        Finder k = new Finder();
        lived(k);
        due(k.find(0), 2);
        foundAre(k, 4, 0, 1, 2);
        // Any two of the columns tell the third, none alone does.
        k = with(true, cells(0, 0, 0), cells(0, 1, 1), cells(1, 0, 1), cells(1, 1, 0));
        due(k.find(0), 3);
        foundAre(k, 6, 0, 5, 1, 3, 2);
        // Each tells each.
        k = with(true, cells(1, 1, 1), cells(2, 2, 2));
        due(k.find(0), 6);
        foundAre(k, 2, 0, 4, 0, 1, 1, 4, 1, 1, 2, 2, 2);
        // Nothing tells anything: rows LIKE in all others are unlike in each.
        k = with(true, cells(0, 0), cells(0, 1), cells(1, 0));
        due(k.find(0), 0);
        foundAre(k);
        // A column that is the same everywhere is told by none, and by that alone.
        k = with(true, cells(5, 1), cells(5, 2));
        due(k.find(0), 1);
        foundAre(k, 0, 0);
        // What the LAWS say does not matter, nor the WIDTH.
        due(k.law(TELLS, 1, 2), 0);
        due(k.width(1), 4);
        due(k.find(0), 1);
        foundAre(k, 0, 0);
    }

    private static void findEdges() {
        of(17, "All TELLS laws of one column told, not in X, that HOLD in a TABLE, and no less X has such a one");
        Finder k = new Finder();
        sized(k, 0, 8, 0);
        due(k.find(0), 8);
        foundAre(k, 0, 0, 0, 1, 0, 2, 0, 3, 0, 4, 0, 5, 0, 6, 0, 7);
        due(k.rows(0, 1), 1);
        due(k.find(0), 8);
        due(k.rows(0, 23), 24);
        due(k.find(0), 8);
        due(k.table(1, false), 1);
        due(k.find(1), 0);
        foundAre(k);
        // A single column is told by nothing, or not at all.
        k = with(true, cells(1), cells(1));
        due(k.find(0), 1);
        k = with(true, cells(1), cells(2));
        due(k.find(0), 0);
        // Where missing ones are not like, no two rows are LIKE in that column: it is told only where no two are LIKE.
        k = with(false, cells(null, 1), cells(null, 1));
        due(k.find(0), 1);
        foundAre(k, 0, 1);
        k = with(false, cells(null, 1), cells(null, 2));
        due(k.find(0), 2);
        foundAre(k, 2, 0, 1, 1);
        mostFound();
        of(17, "UNKNOWN.");
        for (int t : new int[] {-1, 4, 2, 3, MIN, MAX}) {
            refused(Sentences::lived, f -> f.find(t), UNKNOWN);
        }
    }

    /** 23 rows that are LIKE to row 0 in three columns each, or so: then sets of many columns are the least that tell. */
    private static void mostFound() {
        Finder k = new Finder();
        due(k.table(0, false), 1);
        for (int c = 0; c < 8; c++) {
            due(k.column(0, BYTES), c);
        }
        due(k.rows(0, 24), 24);
        // Rows are LIKE to row 0 in just the columns of a set, and to no other row in any but those.
        int[] sets = {7, 11, 19, 35, 67, 131, 13, 21, 37, 69, 133, 25, 41, 73, 137, 49, 81, 145, 97, 161, 193, 254, 14};
        for (int c = 0; c < 8; c++) {
            due(k.put(0, 0, c, 0), 1);
        }
        for (int r = 1; r < 24; r++) {
            for (int c = 0; c < 8; c++) {
                due(k.put(0, r, c, (sets[r - 1] >> c & 1) == 1 ? 0 : r), 1);
            }
        }
        int n = k.find(0);
        due(k.told(2), n);
        due(k.found(n, 0), UNKNOWN);
        int seen = 0;
        for (int c = 0; c < 8; c++) {
            for (int x = 0; x < 256; x++) {
                if ((x >> c & 1) == 0 && isLeastThatTells(sets, x, c)) {
                    if (seen % 3 == 0) {
                        due(k.found(seen, 0), x);
                        due(k.found(seen, 1), c);
                    }
                    seen++;
                }
            }
        }
        due(n, seen);
        due(n > 90 ? 1 : 0, 1);
    }

    private static boolean isLeastThatTells(int[] sets, int x, int c) {
        if (!tells(sets, x, c)) {
            return false;
        }
        for (int less = 0; less < x; less++) {
            if ((less & ~x) == 0 && tells(sets, less, c)) {
                return false;
            }
        }
        return true;
    }

    /** Two rows are LIKE in what both have alike with row 0. */
    private static boolean tells(int[] sets, int x, int c) {
        for (int i = 0; i < sets.length; i++) {
            for (int j = 0; j <= i; j++) {
                int like = i == j ? sets[i] : sets[i] & sets[j];
                if ((x & ~like) == 0 && (like >> c & 1) == 0) {
                    return false;
                }
            }
        }
        return true;
    }

    private static void found() {
        of(18, "Of the i-th that is FOUND: 0 X, 1 the column told.");
        Finder k = new Finder();
        lived(k);
        foundAre(k, 4, 0, 1, 2);
        // They stay till the next find() that is not refused.
        due(k.find(2), UNKNOWN);
        foundAre(k, 4, 0, 1, 2);
        due(k.put(0, 0, 0, 9), 1);
        due(k.drop(0), 1);
        due(k.hold(1, 0), 1);
        foundAre(k, 4, 0, 1, 2);
        due(k.find(1), 2);
        foundAre(k, 2, 0, 1, 1);
        of(18, "UNKNOWN;");
        for (int i : new int[] {-1, 2, MIN, MAX}) {
            refused(Sentences::lived, f -> f.found(i, 0), UNKNOWN);
            refused(Sentences::lived, f -> f.found(i, 2), UNKNOWN);
        }
        refused(Sentences::fresh, f -> f.found(0, 0), UNKNOWN);
        of(18, "OUTSIDE.");
        for (int what : new int[] {-1, 2, MIN, MAX}) {
            refused(Sentences::lived, f -> f.found(0, what), OUTSIDE);
            refused(Sentences::lived, f -> f.found(1, what), OUTSIDE);
        }
    }

    private static void misses() {
        of(19, "How many rows of a TABLE have to be left out at least, so that rows LIKE in X are LIKE in Y");
        Finder k = with(true, cells(1, 1), cells(1, 2), cells(1, 2), cells(2, 3), cells(2, 4), cells(2, 5), cells(3, 9));
        due(k.misses(0, 1, 2), 3);
        due(k.misses(0, 2, 1), 0);
        due(k.misses(0, 0, 1), 4);
        due(k.misses(0, 0, 2), 5);
        due(k.misses(0, 1, 0), 0);
        due(k.misses(0, 0, 0), 0);
        due(k.misses(0, 3, 3), 0);
        due(k.misses(0, 1, 1), 0);
        due(k.misses(0, 1, 3), 3);
        due(k.misses(0, 0, 3), 5);
        // The larger ones come last, and rows between them belong to others.
        k = with(true, cells(1, 1), cells(2, 7), cells(1, 2), cells(2, 8), cells(1, 2), cells(2, 8), cells(1, 2));
        due(k.misses(0, 1, 2), 2);
        sized(k, 1, 1, 0);
        due(k.misses(1, 0, 1), 0);
        due(k.misses(1, 1, 0), 0);
        sized(k, 1, 1, 1);
        due(k.misses(1, 0, 1), 0);
        sized(k, 1, 8, 24);
        due(k.misses(1, 0, 255), 0);
        for (int r = 0; r < 24; r++) {
            due(k.put(1, r, 7, r), 1);
        }
        due(k.misses(1, 0, 128), 23);
        due(k.misses(1, 127, 255), 23);
        due(k.misses(1, 128, 127), 0);
        of(19, "(missing ones, where they are not like, stand alone).");
        Long[][] rows = {cells(1, null), cells(1, null), cells(1, 5), cells(null, 1), cells(null, 2), cells(null, 2)};
        k = with(false, rows);
        due(k.misses(0, 1, 2), 2);
        due(k.misses(0, 2, 1), 1);
        due(k.misses(0, 0, 2), 4);
        due(k.misses(0, 0, 1), 3);
        due(k.misses(0, 1, 1), 0);
        due(k.misses(0, 2, 2), 0);
        due(k.misses(0, 0, 3), 5);
        k = with(true, rows);
        due(k.misses(0, 1, 2), 2);
        due(k.misses(0, 2, 1), 0);
        due(k.misses(0, 0, 2), 4);
        due(k.misses(0, 0, 3), 4);
    }

    private static void missesRefusals() {
        of(19, "UNKNOWN;");
        for (int t : new int[] {-1, 4, 2, 3, MIN, MAX}) {
            refused(Sentences::lived, k -> k.misses(t, 0, 0), UNKNOWN);
        }
        of(19, "OUTSIDE: x, y;");
        for (int set : NO_SETS) {
            refused(Sentences::lived, k -> k.misses(0, set, 0), OUTSIDE);
            refused(Sentences::lived, k -> k.misses(0, 0, set), OUTSIDE);
            refused(Sentences::lived, k -> k.misses(0, 128, set), OUTSIDE);
        }
        of(19, "STATE: columns that it has not.");
        for (int set : new int[] {8, 9, 128, 255}) {
            refused(Sentences::lived, k -> k.misses(0, set, 0), STATE);
            refused(Sentences::lived, k -> k.misses(0, 0, set), STATE);
            refused(Sentences::lived, k -> k.misses(0, set, set), STATE);
        }
        refused(k -> sized(k, 0, 0, 2), k -> k.misses(0, 1, 0), STATE);
        refused(k -> sized(k, 0, 0, 2), k -> k.misses(0, 0, 1), STATE);
        Finder k = new Finder();
        sized(k, 0, 0, 2);
        due(k.misses(0, 0, 0), 0);
    }

    private static void twice() {
        of(20, "How many rows have an elder one LIKE in X and Y.");
        Finder k = with(true, cells(1, 1), cells(1, 2), cells(1, 1), cells(2, 1), cells(1, 1), cells(null, 1), cells(null, 1));
        due(k.twice(0, 1, 2), 3);
        due(k.twice(0, 2, 1), 3);
        due(k.twice(0, 3, 0), 3);
        due(k.twice(0, 1, 0), 4);
        due(k.twice(0, 0, 1), 4);
        due(k.twice(0, 0, 2), 5);
        due(k.twice(0, 0, 0), 6);
        due(k.twice(0, 1, 1), 4);
        k = with(false, cells(null, 1), cells(null, 1), cells(1, 1), cells(1, null), cells(1, null));
        due(k.twice(0, 1, 0), 2);
        due(k.twice(0, 1, 2), 0);
        due(k.twice(0, 2, 0), 2);
        due(k.twice(0, 0, 0), 4);
        sized(k, 1, 8, 0);
        due(k.twice(1, 255, 255), 0);
        due(k.rows(1, 1), 1);
        due(k.twice(1, 0, 0), 0);
        due(k.rows(1, 23), 24);
        due(k.twice(1, 255, 0), 23);
        due(k.put(1, 0, 7, 1), 1);
        due(k.twice(1, 255, 0), 22);
        due(k.twice(1, 127, 0), 23);
        of(20, "UNKNOWN; OUTSIDE; STATE.");
        for (int t : new int[] {-1, 4, 2, 3, MIN, MAX}) {
            refused(Sentences::lived, f -> f.twice(t, 0, 0), UNKNOWN);
        }
        for (int set : NO_SETS) {
            refused(Sentences::lived, f -> f.twice(0, set, 0), OUTSIDE);
            refused(Sentences::lived, f -> f.twice(0, 0, set), OUTSIDE);
            refused(Sentences::lived, f -> f.twice(0, 128, set), OUTSIDE);
        }
        for (int set : new int[] {8, 9, 128, 255}) {
            refused(Sentences::lived, f -> f.twice(0, set, 0), STATE);
            refused(Sentences::lived, f -> f.twice(0, 0, set), STATE);
        }
        refused(f -> sized(f, 0, 0, 2), f -> f.twice(0, 0, 1), STATE);
    }
}
