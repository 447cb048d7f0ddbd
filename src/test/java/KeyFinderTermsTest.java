/** The sentences of "Terms": refusals and their order, FAULTS, TABLES, LAWS, WIDTH and what rests on it. */
public final class KeyFinderTermsTest extends Sentences {
    public static void main(String[] args) {
        eachRefusal();
        unknownAheadOfOutside();
        unknownAheadOfState();
        unknownAheadOfFull();
        outsideAheadOfState();
        outsideAheadOfFull();
        stateAheadOfFull();
        refusalsChangeNothing();
        eachFault();
        refusalsAheadOfFaults();
        faultsInOrder();
        faultsAreAnswered();
        noneAndSets();
        tablesAtFirst();
        mostColumnsAndRows();
        cutToLanes();
        bitsOfDoubles();
        likeCells();
        likeRows();
        orders();
        lawsEver();
        columnsItHasNot();
        tells();
        keyLaws();
        several();
        never();
        ordered();
        within();
        withinLanes();
        whereLawsBreak();
        widthAndForce();
        closures();
        keySets();
        covers();
        partsOfAll();
        thirdParts();
        strictParts();
        forms();
        chases();
        keeping();
        end(TERMS, TERMS);
    }

    // ---- refusals

    private static final String FIRST = "REFUSALS, the first of these that fits: ";
    private static final String UNKNOWN_IS = "UNKNOWN (there is no such TABLE, column, row, LAW, PART)";
    private static final String OUTSIDE_IS = "OUTSIDE (another number is not as told)";
    private static final String STATE_IS = "STATE (as told)";
    private static final String FULL_IS = "FULL; they change nothing (but fault(), of a call that names FAULTS)";

    private static void eachRefusal() {
        of(TERMS, UNKNOWN_IS);
        refused(Sentences::lived, k -> k.find(2), UNKNOWN);
        refusedByOneOfFaults(Sentences::lived, k -> k.copy(0, 3, 0, 0, 0, 1), UNKNOWN);
        refused(Sentences::lived, k -> k.like(0, 3, 0, 1), UNKNOWN);
        refused(Sentences::lived, k -> k.unlaw(8), UNKNOWN);
        refused(Sentences::lived, k -> k.parted(2), UNKNOWN);
        of(TERMS, OUTSIDE_IS);
        refused(Sentences::lived, k -> k.about(0, 7), OUTSIDE);
        of(TERMS, STATE_IS);
        refused(Sentences::lived, k -> k.hold(0, 6), STATE);
        of(TERMS, FULL_IS);
        refused(k -> sized(k, 0, 8, 0), k -> k.column(0, INTS), FULL);
    }

    private static void unknownAheadOfOutside() {
        of(TERMS, FIRST, UNKNOWN_IS, OUTSIDE_IS);
        refused(Sentences::lived, k -> k.column(2, 6), UNKNOWN);
        refused(Sentences::lived, k -> k.about(2, -1), UNKNOWN);
        refused(Sentences::lived, k -> k.about(4, 12), UNKNOWN);
        refused(Sentences::lived, k -> k.like(2, 0, 0, 256), UNKNOWN);
        refused(Sentences::lived, k -> k.like(0, 3, 0, 256), UNKNOWN);
        refused(Sentences::lived, k -> k.like(0, 0, 3, -1), UNKNOWN);
        refused(Sentences::lived, k -> k.found(2, 2), UNKNOWN);
        refused(Sentences::lived, k -> k.found(-1, -1), UNKNOWN);
        refused(Sentences::lived, k -> k.misses(2, 256, 0), UNKNOWN);
        refused(Sentences::lived, k -> k.misses(2, 0, 256), UNKNOWN);
        refused(Sentences::lived, k -> k.twice(2, -1, 0), UNKNOWN);
        refused(Sentences::lived, k -> k.twice(-1, 0, -1), UNKNOWN);
        refused(Sentences::lived, k -> k.covered(3, 2), UNKNOWN);
        refused(Sentences::lived, k -> k.covered(-1, -1), UNKNOWN);
        refused(Sentences::lived, k -> k.project(2, 256, 3), UNKNOWN);
        refused(Sentences::lived, k -> k.project(0, 256, 4), UNKNOWN);
        refused(Sentences::lived, k -> k.join(2, 256, 1, 3, 3), UNKNOWN);
        refused(Sentences::lived, k -> k.join(0, 7, 2, -1, 3), UNKNOWN);
        refused(Sentences::lived, k -> k.join(0, 256, 1, 256, 4), UNKNOWN);
        refusedByOneOfFaults(Sentences::lived, k -> k.rows(2, 25), UNKNOWN);
        refusedByOneOfFaults(Sentences::lived, k -> k.say(8, 6, 0), UNKNOWN);
        refusedByOneOfFaults(Sentences::lived, k -> k.say(-1, 0, 3), UNKNOWN);
    }

    private static void unknownAheadOfState() {
        of(TERMS, FIRST, UNKNOWN_IS, STATE_IS);
        refusedByOneOfFaults(KeyFinderTermsTest::unlikeLanes, k -> k.copy(0, 0, 0, 2, 0, 1), UNKNOWN);
        refusedByOneOfFaults(KeyFinderTermsTest::unlikeLanes, k -> k.copy(0, 2, 0, 0, 0, 1), UNKNOWN);
        // LAW 6 was dropped; LAW 3 has a column that no TABLE has which is not there.
        refused(Sentences::lived, k -> k.hold(2, 6), UNKNOWN);
        refused(Sentences::lived, k -> k.hold(2, 3), UNKNOWN);
        refused(Sentences::lived, k -> k.project(2, 0, 3), UNKNOWN);
        refused(Sentences::lived, k -> k.project(2, 8, 2), UNKNOWN);
        refused(Sentences::lived, k -> k.project(0, 8, 4), UNKNOWN);
        refused(Sentences::lived, k -> k.join(2, 3, 1, 3, 2), UNKNOWN);
        refused(Sentences::lived, k -> k.join(0, 3, 1, 1, 4), UNKNOWN);
        refused(Sentences::lived, k -> k.join(0, 3, 2, 1, 0), UNKNOWN);
        refused(Sentences::lived, k -> k.misses(2, 128, 128), UNKNOWN);
        refused(Sentences::lived, k -> k.twice(2, 128, 128), UNKNOWN);
    }

    private static void unlikeLanes(Finder k) {
        due(k.table(0, true), 1);
        due(k.column(0, INTS), 0);
        due(k.column(0, LONGS), 1);
        due(k.rows(0, 2), 2);
    }

    private static void unknownAheadOfFull() {
        of(TERMS, FIRST, UNKNOWN_IS, FULL_IS);
        refused(KeyFinderTermsTest::tooManyToJoin, k -> k.join(0, 1, 1, 2, 4), UNKNOWN);
        refused(KeyFinderTermsTest::tooManyToJoin, k -> k.join(0, 1, 1, 2, -1), UNKNOWN);
        refused(KeyFinderTermsTest::dropped, k -> k.column(0, INTS), UNKNOWN);
        refusedByOneOfFaults(KeyFinderTermsTest::dropped, k -> k.rows(0, 1), UNKNOWN);
    }

    /** Two TABLES of one column of ints, of 5 rows each: 25 rows, if they are joined by no column. */
    private static void tooManyToJoin(Finder k) {
        sized(k, 0, 1, 5);
        sized(k, 1, 1, 5);
    }

    /** TABLE 0 had all the columns and rows that one can have. */
    private static void dropped(Finder k) {
        sized(k, 0, 8, 24);
        due(k.drop(0), 1);
    }

    private static void outsideAheadOfState() {
        of(TERMS, FIRST, OUTSIDE_IS, STATE_IS);
        refused(Sentences::lived, k -> k.column(0, 6), OUTSIDE);
        refused(Sentences::lived, k -> k.column(0, -1), OUTSIDE);
        refused(Sentences::lived, k -> k.misses(0, 256, 8), OUTSIDE);
        refused(Sentences::lived, k -> k.misses(0, 8, -1), OUTSIDE);
        refused(Sentences::lived, k -> k.twice(0, -1, 8), OUTSIDE);
        refused(Sentences::lived, k -> k.twice(0, 8, 256), OUTSIDE);
        refused(Sentences::lived, k -> k.project(0, 256, 0), OUTSIDE);
        refused(Sentences::lived, k -> k.project(0, -1, 0), OUTSIDE);
        refused(Sentences::lived, k -> k.join(0, 256, 1, 3, 0), OUTSIDE);
        refused(Sentences::lived, k -> k.join(0, 7, 1, -1, 1), OUTSIDE);
        refused(Sentences::lived, k -> k.join(0, 1, 1, 256, 2), OUTSIDE);
    }

    private static void outsideAheadOfFull() {
        of(TERMS, FIRST, OUTSIDE_IS, FULL_IS);
        refused(k -> sized(k, 0, 8, 0), k -> k.column(0, 6), OUTSIDE);
        refused(k -> sized(k, 0, 8, 0), k -> k.column(0, -1), OUTSIDE);
        refusedByOneOfFaults(k -> sized(k, 0, 1, 24), k -> k.rows(0, 25), OUTSIDE);
        refusedByOneOfFaults(k -> sized(k, 0, 1, 1), k -> k.rows(0, MAX), OUTSIDE);
        refused(KeyFinderTermsTest::fullOfLaws, k -> k.law(6, 0, 0), OUTSIDE);
        refused(KeyFinderTermsTest::fullOfLaws, k -> k.law(TELLS, 256, 0), OUTSIDE);
        refused(KeyFinderTermsTest::fullOfLaws, k -> k.law(ORDER, 3, 1), OUTSIDE);
        refused(KeyFinderTermsTest::fullOfLaws, k -> k.law(WITHIN, 0, 4), OUTSIDE);
        refused(KeyFinderTermsTest::fullOfParts, k -> k.part(0), OUTSIDE);
        refused(KeyFinderTermsTest::fullOfParts, k -> k.part(16), OUTSIDE);
        refused(KeyFinderTermsTest::fullOfParts, k -> k.part(-1), OUTSIDE);
    }

    private static void fullOfLaws(Finder k) {
        for (int law = 0; law < 40; law++) {
            due(k.law(TELLS, 1, 2), law);
        }
    }

    private static void fullOfParts(Finder k) {
        for (int n = 1; n <= 12; n++) {
            due(k.part(n), n);
        }
    }

    private static void stateAheadOfFull() {
        of(TERMS, FIRST, STATE_IS, FULL_IS);
        refused(k -> sized(k, 0, 8, 1), k -> k.column(0, INTS), STATE);
        refused(KeyFinderTermsTest::tooManyToJoin, k -> k.join(0, 1, 1, 2, 0), STATE);
        refused(KeyFinderTermsTest::tooManyToJoin, k -> k.join(0, 1, 1, 2, 1), STATE);
        refused(KeyFinderTermsTest::tooManyToJoin, k -> k.join(0, 3, 1, 4, 2), STATE);
        refused(KeyFinderTermsTest::tooManyToJoin, k -> k.join(0, 1, 1, 0, 2), STATE);
    }

    private static void refusalsChangeNothing() {
        of(TERMS, FULL_IS);
        // A FAULT told before stays told where a call names none, and is gone where it names some.
        refused(Sentences::lived, k -> k.table(4, true), UNKNOWN);
        refused(Sentences::lived, k -> k.drop(4), UNKNOWN);
        refused(Sentences::lived, k -> k.law(6, 0, 0), OUTSIDE);
        refused(Sentences::lived, k -> k.hold(0, 8), UNKNOWN);
        refused(Sentences::lived, k -> k.find(2), UNKNOWN);
        refused(Sentences::lived, k -> k.width(9), OUTSIDE);
        refused(Sentences::lived, k -> k.closure(16), OUTSIDE);
        refused(Sentences::lived, k -> k.follows(0, 16), OUTSIDE);
        refused(Sentences::lived, k -> k.part(16), OUTSIDE);
        refused(Sentences::lived, k -> k.form(16), OUTSIDE);
        refused(Sentences::lived, k -> k.keeps(6), STATE);
        refused(Sentences::lived, k -> k.project(0, 8, 2), STATE);
        refused(Sentences::lived, k -> k.broken(2), OUTSIDE);
        refused(Sentences::lived, k -> k.told(6), OUTSIDE);
        refusedByOneOfFaults(Sentences::lived, k -> k.put(4, 0, 0, 9), UNKNOWN);
        refusedByOneOfFaults(Sentences::lived, k -> k.miss(4, 0, 0), UNKNOWN);
        refusedByOneOfFaults(Sentences::lived, k -> k.rows(0, 22), FULL);
        refusedByOneOfFaults(KeyFinderTermsTest::unlikeLanes, k -> k.copy(0, 0, 0, 1, 0, 1), STATE);
        refusedByOneOfFaults(Sentences::lived, k -> k.say(0, 0, 3), OUTSIDE);
        lost(Sentences::lived, k -> k.at(0, 0, 0, 6), 0);
    }

    // ---- faults

    private static void eachFault() {
        of(TERMS, "FAULTS are the machine's: 1 NULL (nothing is there)");
        faulted(Sentences::lived, k -> k.put(2, 0, 0, 1), NULL);
        faulted(Sentences::lived, k -> k.miss(2, 0, 0), NULL);
        lost(Sentences::lived, k -> k.at(2, 0, 0, INTS), 1);
        of(TERMS, "2 CAST (a column, a LAW of another kind)");
        lost(Sentences::lived, k -> k.at(0, 0, 0, LONGS), 2);
        faulted(Sentences::lived, k -> k.say(0, KEY, 0), CAST);
        of(TERMS, "3 INDEX");
        faulted(Sentences::lived, k -> k.put(0, 3, 0, 1), INDEX);
        faulted(Sentences::lived, k -> k.miss(0, 0, 3), INDEX);
        lost(Sentences::lived, k -> k.at(0, 3, 0, INTS), 3);
        faulted(Sentences::lived, k -> k.copy(0, 0, 0, 1, 0, 4), INDEX);
        of(TERMS, "4 SIZE (a count below 0)");
        faulted(Sentences::lived, k -> k.rows(0, -1), SIZE);
    }

    private static void refusalsAheadOfFaults() {
        of(TERMS, "Of a call the first that is come to, in the order told");
        refusedByOneOfFaults(Sentences::lived, k -> k.rows(2, -1), UNKNOWN);
        refusedByOneOfFaults(Sentences::lived, k -> k.put(4, -1, -1, 0), UNKNOWN);
        refusedByOneOfFaults(Sentences::lived, k -> k.miss(-1, 9, 9), UNKNOWN);
        refusedByOneOfFaults(Sentences::lived, k -> k.copy(0, 3, -1, 0, 0, 1), UNKNOWN);
        refusedByOneOfFaults(KeyFinderTermsTest::unlikeLanes, k -> k.copy(0, 0, -1, 1, 0, 1), STATE);
        refusedByOneOfFaults(Sentences::lived, k -> k.say(8, KEY, 0), UNKNOWN);
        refusedByOneOfFaults(Sentences::lived, k -> k.say(0, KEY, 3), OUTSIDE);
        // A LANE that is none is refused ahead of NULL, CAST and INDEX.
        lost(Sentences::lived, k -> k.at(2, 0, 0, 6), 0);
        lost(Sentences::lived, k -> k.at(0, 9, 0, 6), 0);
        lost(Sentences::lived, k -> k.at(0, 0, 9, -1), 0);
        lost(Sentences::lived, k -> k.at(4, 0, 0, INTS), 0);
        // SIZE is told ahead of FULL.
        faulted(k -> sized(k, 0, 1, 24), k -> k.rows(0, -1), SIZE);
    }

    private static void faultsInOrder() {
        of(TERMS, "Of a call the first that is come to, in the order told");
        faulted(Sentences::lived, k -> k.put(2, -1, -1, 0), NULL);
        faulted(Sentences::lived, k -> k.miss(3, 99, 99), NULL);
        lost(Sentences::lived, k -> k.at(2, 99, 99, LONGS), 1);
        lost(Sentences::lived, k -> k.at(0, 0, 3, LONGS), 3);
        lost(Sentences::lived, k -> k.at(0, 3, 0, LONGS), 2);
        lost(Sentences::lived, k -> k.at(0, -1, 2, DOUBLES), 2);
    }

    private static void faultsAreAnswered() {
        of(TERMS, "it answers -10 less it (LOST, where a long is answered, as for refusals) and changes nothing; fault() tells it");
        Finder k = new Finder();
        due(k.put(0, 0, 0, 1), -11);
        due(k.fault(), 1);
        due(k.about(0, 0), UNKNOWN);
        due(k.law(TELLS, 1, 2), 0);
        due(k.say(0, KEY, 0), -12);
        due(k.fault(), 2);
        due(k.table(0, true), 1);
        due(k.column(0, BYTES), 0);
        due(k.put(0, 0, 0, 1), -13);
        due(k.fault(), 3);
        due(k.rows(0, -1), -14);
        due(k.fault(), 4);
        due(k.about(0, 1), 0);
        due(k.at(0, 0, 0, SHORTS), Long.MIN_VALUE);
        due(k.fault(), 2);
        due(k.at(4, 0, 0, SHORTS), Long.MIN_VALUE);
        due(k.fault(), 0);
    }

    private static void noneAndSets() {
        of(TERMS, "NONE is -9.");
        Finder k = new Finder();
        due(k.broken(0), -9);
        due(k.step(0), -9);
        due(k.key(1), -9);
        due(KeyFinder.NONE, -9);
        of(TERMS, "Sets of columns are numbers of bits: column c is bit c.");
        for (int c = 0; c < 8; c++) {
            k = new Finder();
            sized(k, 0, 8, 2);
            due(k.put(0, 0, c, 1), 1);
            due(k.like(0, 0, 1, 255), 0);
            due(k.like(0, 0, 1, 1 << c), 0);
            due(k.like(0, 0, 1, 255 - (1 << c)), 1);
        }
    }

    // ---- 1 tables

    private static void tablesAtFirst() {
        of(TERMS, "==== 1 TABLES 0 .. 3 are not there at first.");
        for (int t = 0; t < 4; t++) {
            Finder k = new Finder();
            due(k.about(t, 0), UNKNOWN);
            due(k.put(t, 0, 0, 0), NULL);
            due(k.drop(t), 0);
            due(k.table(t, true), 1);
            for (int other = 0; other < 4; other++) {
                due(k.about(other, 0), other == t ? 0 : UNKNOWN);
            }
        }
        Finder k = new Finder();
        due(k.table(-1, true), UNKNOWN);
        due(k.table(4, true), UNKNOWN);
    }

    private static void mostColumnsAndRows() {
        of(TERMS, "One that is has columns, 8 at most, each of a LANE: 0 bytes, 1 shorts, 2 chars, 3 ints, 4 longs, 5 doubles");
        Finder k = new Finder();
        for (int t = 0; t < 4; t++) {
            due(k.table(t, true), 1);
            for (int c = 0; c < 8; c++) {
                due(k.column(t, (c + t) % 6), c);
            }
            due(k.column(t, BYTES), FULL);
            for (int c = 0; c < 8; c++) {
                due(k.about(t, 4 + c), (c + t) % 6);
            }
        }
        due(k.column(0, -1), OUTSIDE);
        due(k.column(0, 6), OUTSIDE);
        of(TERMS, "and rows, 24 at most; each cell has a value, or is missing.");
        for (int t = 0; t < 4; t++) {
            due(k.rows(t, 24), 24);
            due(k.rows(t, 1), FULL);
            due(k.about(t, 3), 192);
            due(k.put(t, 23, 7, t), 1);
            due(k.put(t, 0, 0, -t), 1);
            due(k.about(t, 3), 190);
        }
        for (int t = 0; t < 4; t++) {
            due(k.at(t, 23, 7, (7 + t) % 6), t);
            due(k.at(t, 0, 0, t), t == CHARS ? 65534 : -t);
        }
    }

    private static void cutToLanes() {
        of(TERMS, "What comes to a cell (a long) is cut to its LANE");
        Finder k = new Finder();
        due(k.table(0, true), 1);
        for (int lane = 0; lane < 6; lane++) {
            due(k.column(0, lane), lane);
        }
        due(k.rows(0, 1), 1);
        long[][] bytes = {{127, 127}, {128, -128}, {-128, -128}, {-129, 127}, {255, -1}, {256, 0}, {511, -1}, {-256, 0}};
        cut(k, BYTES, bytes);
        long[][] shorts = {{32767, 32767}, {32768, -32768}, {-32768, -32768}, {-32769, 32767}, {65535, -1}, {65536, 0}};
        cut(k, SHORTS, shorts);
        long[][] chars = {{65535, 65535}, {65536, 0}, {-1, 65535}, {32768, 32768}, {-65536, 0}, {-65535, 1}, {0, 0}};
        cut(k, CHARS, chars);
        long[][] ints = {{MAX, MAX}, {MAX + 1L, MIN}, {MIN, MIN}, {MIN - 1L, MAX}, {0xffffffffL, -1}, {1L << 32, 0}};
        cut(k, INTS, ints);
        long[][] longs = {{Long.MAX_VALUE, Long.MAX_VALUE}, {Long.MIN_VALUE + 1, Long.MIN_VALUE + 1}, {1L << 32, 1L << 32},
            {-1, -1}, {NAN, NAN}};
        cut(k, LONGS, longs);
        for (int lane = 0; lane < 5; lane++) {
            cut(k, lane, new long[][] {{Long.MAX_VALUE, lane == CHARS ? 65535 : lane == LONGS ? Long.MAX_VALUE : -1}});
        }
        // A long's cell may hold what LOST is; it is there all the same.
        cut(k, LONGS, new long[][] {{Long.MIN_VALUE, LOST}});
        due(k.miss(0, 0, LONGS), 1);
        cut(k, INTS, new long[][] {{Long.MIN_VALUE, 0}});
    }

    private static void cut(Finder k, int lane, long[][] pairs) {
        for (long[] pair : pairs) {
            due(k.put(0, 0, lane, pair[0]), 1);
            due(k.at(0, 0, lane, lane), pair[1]);
            due(k.fault(), 0);
        }
    }

    private static void bitsOfDoubles() {
        of(TERMS, "to a double's it is BITS (Double.doubleToLongBits): all that are not a number are one value, -0.0 is 0.0. "
                + "Values are told as longs likewise.");
        Finder k = new Finder();
        due(k.table(0, false), 1);
        due(k.column(0, DOUBLES), 0);
        due(k.rows(0, 2), 2);
        long infinity = bits(Double.POSITIVE_INFINITY);
        long below = bits(Double.NEGATIVE_INFINITY);
        long[][] pairs = {{0, 0}, {Long.MIN_VALUE, 0}, {1, 1}, {Long.MIN_VALUE + 1, Long.MIN_VALUE + 1}, {infinity, infinity},
            {infinity - 1, infinity - 1}, {infinity + 1, NAN}, {NAN, NAN}, {NAN + 1, NAN}, {Long.MAX_VALUE, NAN}, {below, below},
            {below - 1, below - 1}, {below + 1, NAN}, {bits(-Double.NaN) | Long.MIN_VALUE, NAN}, {-1, NAN},
            {bits(1.5), bits(1.5)}, {bits(-2.25), bits(-2.25)}};
        for (long[] pair : pairs) {
            due(k.put(0, 0, 0, pair[0]), 1);
            due(k.at(0, 0, 0, DOUBLES), pair[1]);
            due(k.put(0, 1, 0, pair[1]), 1);
            due(k.like(0, 0, 1, 1), 1);
        }
        // They stay so where they are copied.
        due(k.put(0, 0, 0, Long.MIN_VALUE), 1);
        due(k.copy(0, 0, 0, 0, 1, 1), 1);
        due(k.at(0, 1, 0, DOUBLES), 0);
    }

    private static void likeCells() {
        of(TERMS, "LIKE are two cells of one column of two rows, if both have values, and the same; "
                + "missing ones with each other alone, and only where the TABLE takes missing ones as like.");
        for (int areLike = 0; areLike < 2; areLike++) {
            Finder k = with(areLike == 1, cells(0, 7), cells(null, 7), cells(null, 0), cells(0, null), cells(1, null));
            due(k.like(0, 0, 3, 1), 1);
            due(k.like(0, 3, 0, 1), 1);
            due(k.like(0, 0, 4, 1), 0);
            // A missing cell is not like a 0 that once stood in a cell.
            due(k.like(0, 0, 1, 1), 0);
            due(k.like(0, 1, 0, 1), 0);
            due(k.like(0, 1, 2, 1), areLike);
            due(k.like(0, 2, 1, 1), areLike);
            due(k.like(0, 3, 4, 2), areLike);
            due(k.miss(0, 0, 0), 1);
            due(k.like(0, 0, 1, 1), areLike);
            due(k.like(0, 0, 3, 1), 0);
            due(k.put(0, 1, 0, 0), 1);
            due(k.like(0, 1, 3, 1), 1);
        }
        // Values that were unlike before they were cut to the LANE.
        Finder k = new Finder();
        fill(k, 0, false, BYTES, cells(1), cells(257), cells(-255), cells(129));
        due(k.like(0, 0, 1, 1), 1);
        due(k.like(0, 0, 2, 1), 1);
        due(k.like(0, 0, 3, 1), 0);
    }

    private static void likeRows() {
        of(TERMS, "Rows are LIKE in a set, if all its cells are.");
        Finder k = with(true, cells(1, 2, 3), cells(1, 5, 3), cells(4, 5, 6));
        int[][] like = {{0, 1, 5}, {1, 2, 2}, {0, 2, 0}, {0, 0, 7}, {2, 2, 7}};
        for (int[] pair : like) {
            for (int set = 0; set < 8; set++) {
                due(k.like(0, pair[0], pair[1], set), (set & ~pair[2]) == 0 ? 1 : 0);
                due(k.like(0, pair[1], pair[0], set), (set & ~pair[2]) == 0 ? 1 : 0);
            }
        }
    }

    private static void orders() {
        of(TERMS, "THE ORDER of values: as numbers; what is not a number behind all.");
        rises(BYTES, -128, -1, 0, 1, 127);
        rises(SHORTS, -32768, -1, 0, 255, 32767);
        rises(CHARS, 0, 1, 32767, 32768, 65535);
        rises(INTS, MIN, -1, 0, 65536, MAX);
        rises(LONGS, Long.MIN_VALUE, -1L << 32, -1, 0, 1L << 32, Long.MAX_VALUE);
        rises(DOUBLES, bits(Double.NEGATIVE_INFINITY), bits(-Double.MAX_VALUE), bits(-2), bits(-1), bits(-Double.MIN_VALUE), 0,
                bits(Double.MIN_VALUE), bits(1), bits(2), bits(Double.MAX_VALUE), bits(Double.POSITIVE_INFINITY), NAN);
        // Two that are not a number are not behind one another, nor 0.0 and -0.0.
        for (long[] same : new long[][] {{NAN, -1}, {Long.MIN_VALUE, 0}}) {
            Finder k = orderedBy(DOUBLES, same);
            due(k.hold(0, 0), 0);
            breaksAt(k, 1, 0);
            due(k.hold(0, 1), 1);
        }
    }

    /** Column 0 has values that rise, column 1 ints that rise: each orders the other, till two change places. */
    private static void rises(int lane, long... values) {
        Finder k = orderedBy(lane, values);
        due(k.hold(0, 0), 1);
        due(k.hold(0, 1), 1);
        for (int r = 1; r < values.length; r++) {
            due(k.put(0, r - 1, 0, values[r]), 1);
            due(k.put(0, r, 0, values[r - 1]), 1);
            due(k.hold(0, 0), 0);
            breaksAt(k, r, r - 1);
            due(k.hold(0, 1), 0);
            breaksAt(k, r - 1, r);
            due(k.put(0, r - 1, 0, values[r - 1]), 1);
            due(k.put(0, r, 0, values[r]), 1);
        }
    }

    private static Finder orderedBy(int lane, long... values) {
        Finder k = new Finder();
        due(k.table(0, true), 1);
        due(k.column(0, lane), 0);
        due(k.column(0, INTS), 1);
        due(k.rows(0, values.length), values.length);
        for (int r = 0; r < values.length; r++) {
            due(k.put(0, r, 0, values[r]), 1);
            due(k.put(0, r, 1, r), 1);
        }
        due(k.law(ORDER, 1, 2), 0);
        due(k.law(ORDER, 2, 1), 1);
        return k;
    }

    // ---- 2 laws

    private static void lawsEver() {
        of(TERMS, "==== 2 LAWS, 40 ever, numbered as they come, each of a KIND, with sets X, Y (numbers 0 .. 255).");
        Finder k = new Finder();
        for (int law = 0; law < 40; law++) {
            due(k.law(law % 2 == 0 ? TELLS : SEVERAL, law, 255 - law), law);
        }
        due(k.law(TELLS, 0, 0), FULL);
        for (int law = 0; law < 40; law++) {
            due(k.say(law, law % 2 == 0 ? TELLS : SEVERAL, 0), law);
            due(k.say(law, TELLS, 1), 255 - law);
            due(k.unlaw(law), 1);
        }
        // Dropped ones leave no room.
        due(k.law(TELLS, 0, 0), FULL);
        due(k.told(0), 40);
        k = new Finder();
        due(k.law(TELLS, 0, 255), 0);
        due(k.law(TELLS, 255, 0), 1);
        due(k.say(0, TELLS, 0), 0);
        due(k.say(0, TELLS, 1), 255);
        due(k.say(1, TELLS, 0), 255);
        due(k.say(1, TELLS, 1), 0);
        for (int[] sets : new int[][] {{-1, 0}, {0, -1}, {256, 0}, {0, 256}, {MIN, 0}, {0, MAX}}) {
            due(k.law(TELLS, sets[0], sets[1]), OUTSIDE);
            due(k.law(SEVERAL, sets[0], sets[1]), OUTSIDE);
        }
    }

    private static void columnsItHasNot() {
        of(TERMS, "In a TABLE one HOLDS (columns that it has not are not looked at, but for the STATE told), if");
        // What stood in a third column, ahead of the TABLE that is there now, would break the first two.
        Finder k = with(true, cells(1, 1, 1), cells(1, 1, 2), cells(1, 2, 3));
        fill(k, 0, true, INTS, cells(1, 1), cells(1, 1), cells(1, 2));
        due(k.law(KEY, 3, 255), 0);
        due(k.law(SEVERAL, 1, 2), 1);
        due(k.law(NEVER, 3, 255), 2);
        due(k.law(TELLS, 1, 4), 3);
        due(k.hold(0, 0), 1);
        due(k.hold(0, 1), 1);
        due(k.hold(0, 2), 1);
        due(k.hold(0, 3), STATE);
    }

    private static void tells() {
        of(TERMS, "0 TELLS: any two rows LIKE in X are LIKE in Y.");
        // Without two rows any holds.
        holdsIn(k -> sized(k, 0, 2, 0), TELLS, 0, 3, 1);
        holdsIn(k -> sized(k, 0, 2, 1), TELLS, 0, 3, 1);
        Setup two = k -> fill(k, 0, true, INTS, cells(1, 5), cells(2, 5));
        holdsIn(two, TELLS, 0, 1, 0);
        holdsIn(two, TELLS, 0, 2, 1);
        holdsIn(two, TELLS, 0, 0, 1);
        holdsIn(two, TELLS, 2, 1, 0);
        holdsIn(two, TELLS, 1, 2, 1);
        holdsIn(two, TELLS, 3, 0, 1);
        // Only the last of 24 rows has another cell.
        Setup most = k -> {
            sized(k, 0, 2, 24);
            due(k.put(0, 23, 1, 1), 1);
        };
        holdsIn(most, TELLS, 1, 2, 0);
        holdsIn(most, TELLS, 2, 1, 1);
        // Where missing ones are not like, not even a set tells itself: rows are never LIKE in it, or it is not told.
        Setup missing = k -> fill(k, 0, false, INTS, cells(null, 1), cells(null, 1));
        holdsIn(missing, TELLS, 1, 1, 1);
        holdsIn(missing, TELLS, 2, 1, 0);
        holdsIn(missing, TELLS, 0, 1, 0);
        holdsIn(missing, TELLS, 1, 2, 1);
    }

    /** TABLE 0, and one LAW, which is LAW 0 of a Finder that knows no other. */
    private static Finder holdsIn(Setup setup, int kind, int x, int y, int want) {
        Finder k = new Finder();
        setup.on(k);
        due(k.law(kind, x, y), 0);
        due(k.hold(0, 0), want);
        return k;
    }

    private static void keyLaws() {
        of(TERMS, "1 KEY: any two LIKE in X are LIKE in all columns.");
        Setup rows = k -> fill(k, 0, true, INTS, cells(1, 1, 1), cells(2, 1, 1), cells(1, 1, 1));
        holdsIn(rows, KEY, 1, 0, 1);
        holdsIn(rows, KEY, 2, 0, 0);
        holdsIn(rows, KEY, 0, 0, 0);
        holdsIn(rows, KEY, 7, 0, 1);
        holdsIn(k -> sized(k, 0, 8, 24), KEY, 0, 0, 1);
        holdsIn(k -> sized(k, 0, 8, 1), KEY, 0, 0, 1);
        holdsIn(k -> sized(k, 0, 0, 2), KEY, 0, 0, 1);
        // The last of eight columns is one of all.
        Setup last = k -> {
            sized(k, 0, 8, 2);
            due(k.put(0, 1, 7, 0), 1);
        };
        holdsIn(last, KEY, 127, 0, 0);
        holdsIn(last, KEY, 128, 0, 1);
        Setup missing = k -> fill(k, 0, false, INTS, cells(1, null), cells(1, null));
        holdsIn(missing, KEY, 1, 0, 0);
        holdsIn(missing, KEY, 2, 0, 1);
    }

    private static void several() {
        of(TERMS, "2 SEVERAL: for any two rows i, j (i other than j) LIKE in X there is a row LIKE to i in X and Y, "
                + "and to j in X and all columns that are neither in X nor Y.");
        holdsIn(k -> sized(k, 0, 3, 0), SEVERAL, 0, 1, 1);
        holdsIn(k -> sized(k, 0, 3, 1), SEVERAL, 0, 1, 1);
        Setup cross = k -> fill(k, 0, true, INTS, cells(1, 1, 1), cells(1, 2, 2), cells(1, 1, 2), cells(1, 2, 1));
        holdsIn(cross, SEVERAL, 1, 2, 1);
        holdsIn(cross, SEVERAL, 1, 4, 1);
        holdsIn(cross, SEVERAL, 0, 2, 1);
        Setup three = k -> fill(k, 0, true, INTS, cells(1, 1, 1), cells(1, 2, 2), cells(1, 1, 2));
        breaksAt(holdsIn(three, SEVERAL, 1, 2, 0), 1, 0);
        // With no column left, or none in Y, row j or row i itself is such a one.
        holdsIn(three, SEVERAL, 1, 6, 1);
        holdsIn(three, SEVERAL, 1, 0, 1);
        holdsIn(three, SEVERAL, 0, 7, 1);
        holdsIn(three, SEVERAL, 7, 0, 1);
        holdsIn(three, SEVERAL, 5, 2, 1);
        // Columns of Y that are in X ask no more than X does.
        breaksAt(holdsIn(three, SEVERAL, 1, 3, 0), 1, 0);
        // A single row (i is j) with a missing cell that is like none is not asked for.
        holdsIn(k -> fill(k, 0, false, INTS, cells(1, null), cells(2, null)), SEVERAL, 1, 2, 1);
        holdsIn(k -> fill(k, 0, true, INTS, cells(1, null, 1), cells(1, null, 2)), SEVERAL, 1, 2, 1);
        // Here rows are LIKE in X, but none is LIKE to them in Y, or in the others.
        breaksAt(holdsIn(k -> fill(k, 0, false, INTS, cells(1, null, 1), cells(1, null, 1)), SEVERAL, 1, 2, 0), 0, 1);
        breaksAt(holdsIn(k -> fill(k, 0, false, INTS, cells(1, 1, 1), cells(1, 1, null)), SEVERAL, 1, 2, 0), 0, 1);
    }

    private static void never() {
        of(TERMS, "3 NEVER: no cell in X is missing.");
        holdsIn(k -> sized(k, 0, 2, 0), NEVER, 3, 0, 1);
        holdsIn(k -> sized(k, 0, 2, 1), NEVER, 0, 0, 1);
        breaksAt(holdsIn(k -> sized(k, 0, 8, 24), NEVER, 128, 0, 0), 0, NONE);
        Setup one = k -> fill(k, 0, true, INTS, cells(1, 1), cells(2, null), cells(null, 2));
        breaksAt(holdsIn(one, NEVER, 1, 0, 0), 2, NONE);
        breaksAt(holdsIn(one, NEVER, 2, 0, 0), 1, NONE);
        breaksAt(holdsIn(one, NEVER, 3, 0, 0), 1, NONE);
        Setup whole = k -> fill(k, 0, false, INTS, cells(0, 0), cells(0, 0));
        breaksAt(holdsIn(whole, NEVER, 3, 0, 1), NONE, NONE);
    }

    private static void ordered() {
        of(TERMS, "4 ORDER (X, Y one column each): for any two rows i, j, with values in both columns: "
                + "if i's is not behind j's in X, it is not in Y.");
        holdsIn(k -> sized(k, 0, 2, 0), ORDER, 1, 2, 1);
        holdsIn(k -> sized(k, 0, 2, 3), ORDER, 1, 2, 1);
        holdsIn(k -> fill(k, 0, true, INTS, cells(1, 1)), ORDER, 1, 2, 1);
        holdsIn(k -> fill(k, 0, true, INTS, cells(5, 1), cells(3, 2)), ORDER, 1, 1, 1);
        Setup ties = k -> fill(k, 0, true, INTS, cells(1, 7), cells(2, 7), cells(3, 8));
        holdsIn(ties, ORDER, 1, 2, 1);
        breaksAt(holdsIn(ties, ORDER, 2, 1, 0), 1, 0);
        // A row with a missing cell in either is not asked.
        holdsIn(k -> fill(k, 0, true, INTS, cells(1, 7), cells(2, null), cells(null, 3), cells(4, 9)), ORDER, 1, 2, 1);
        breaksAt(holdsIn(k -> fill(k, 0, true, INTS, cells(1, 7), cells(2, null), cells(4, 6)), ORDER, 1, 2, 0), 0, 2);
        // Columns of unlike LANES order one another, too; the last of eight columns counts.
        Setup lanes = k -> {
            due(k.table(0, true), 1);
            for (int c = 0; c < 8; c++) {
                due(k.column(0, c == 7 ? CHARS : BYTES), c);
            }
            due(k.rows(0, 2), 2);
            due(k.put(0, 0, 0, 1), 1);
            due(k.put(0, 1, 0, -1), 1);
            due(k.put(0, 0, 7, 1), 1);
            due(k.put(0, 1, 7, -1), 1);
        };
        breaksAt(holdsIn(lanes, ORDER, 1, 128, 0), 1, 0);
        breaksAt(holdsIn(lanes, ORDER, 128, 1, 0), 0, 1);
    }

    private static void within() {
        of(TERMS, "5 WITHIN (Y: a TABLE 0 .. 3): for each row without a missing cell in X there is one in the TABLE Y whose values in X are the same");
        Setup other = k -> {
            fill(k, 0, true, INTS, cells(1, 2), cells(3, 4), cells(null, 9));
            fill(k, 3, true, INTS, cells(3, 4, 0), cells(1, 2, 0));
        };
        breaksAt(holdsIn(other, WITHIN, 3, 3, 1), NONE, NONE);
        breaksAt(holdsIn(other, WITHIN, 2, 3, 0), 2, NONE);
        holdsIn(other, WITHIN, 1, 3, 1);
        holdsIn(other, WITHIN, 3, 0, 1);
        // Values of several rows there make none.
        Setup apart = k -> {
            fill(k, 0, true, INTS, cells(1, 4));
            fill(k, 1, true, INTS, cells(1, 2), cells(3, 4));
        };
        breaksAt(holdsIn(apart, WITHIN, 3, 1, 0), 0, NONE);
        holdsIn(apart, WITHIN, 1, 1, 1);
        holdsIn(apart, WITHIN, 2, 1, 1);
        // A missing cell there is no value, not even where one is missing here.
        Setup missing = k -> {
            fill(k, 0, true, INTS, cells(null, 5), cells(0, 5));
            fill(k, 1, true, INTS, cells(null, 5));
        };
        breaksAt(holdsIn(missing, WITHIN, 1, 1, 0), 1, NONE);
        holdsIn(missing, WITHIN, 2, 1, 1);
        holdsIn(missing, WITHIN, 3, 1, 0);
        // Without rows here it holds; without rows there it does not, though X be empty.
        Setup none = k -> {
            sized(k, 0, 1, 0);
            sized(k, 1, 1, 0);
        };
        holdsIn(none, WITHIN, 1, 1, 1);
        Setup noneThere = k -> {
            fill(k, 0, true, INTS, cells(1));
            sized(k, 1, 1, 0);
        };
        breaksAt(holdsIn(noneThere, WITHIN, 1, 1, 0), 0, NONE);
        breaksAt(holdsIn(noneThere, WITHIN, 0, 1, 0), 0, NONE);
        holdsIn(apart, WITHIN, 0, 1, 1);
        // The last row of 24 there is looked at, and the last here is asked.
        Setup last = k -> {
            sized(k, 0, 1, 24);
            sized(k, 1, 1, 24);
            due(k.put(0, 23, 0, 7), 1);
        };
        breaksAt(holdsIn(last, WITHIN, 1, 1, 0), 23, NONE);
        holdsIn(k -> {
            last.on(k);
            due(k.put(1, 23, 0, 7), 1);
        }, WITHIN, 1, 1, 1);
    }

    private static void withinLanes() {
        of(TERMS, "(and its columns of the same LANES).");
        Setup unlike = k -> {
            fill(k, 0, true, INTS, cells(1, 2));
            due(k.table(1, true), 1);
            due(k.column(1, INTS), 0);
            due(k.column(1, LONGS), 1);
            due(k.rows(1, 1), 1);
            due(k.put(1, 0, 0, 1), 1);
            due(k.put(1, 0, 1, 2), 1);
        };
        holdsIn(unlike, WITHIN, 1, 1, 1);
        breaksAt(holdsIn(unlike, WITHIN, 2, 1, 0), 0, NONE);
        breaksAt(holdsIn(unlike, WITHIN, 3, 1, 0), 0, NONE);
        holdsIn(unlike, WITHIN, 0, 1, 1);
        // In the first column, and in the last of eight.
        for (int c = 0; c < 8; c += 7) {
            for (int lane = 0; lane < 6; lane++) {
                Finder k = new Finder();
                eightColumns(k, 0, c, INTS);
                eightColumns(k, 1, c, lane);
                due(k.law(WITHIN, 1 << c, 1), 0);
                due(k.law(WITHIN, 255, 1), 1);
                due(k.law(WITHIN, 255 - (1 << c), 1), 2);
                due(k.hold(0, 0), lane == INTS ? 1 : 0);
                due(k.hold(0, 1), lane == INTS ? 1 : 0);
                due(k.hold(0, 2), 1);
            }
        }
        // Rows that are not asked do not break it.
        holdsIn(k -> {
            unlike.on(k);
            due(k.miss(0, 0, 1), 1);
        }, WITHIN, 2, 1, 1);
    }

    /** One row of eight cells, each with a 1; one column is of another LANE than the bytes beside it. */
    private static void eightColumns(Finder k, int t, int other, int lane) {
        due(k.table(t, true), 1);
        for (int c = 0; c < 8; c++) {
            due(k.column(t, c == other ? lane : BYTES), c);
        }
        due(k.rows(t, 1), 1);
        for (int c = 0; c < 8; c++) {
            due(k.put(t, 0, c, 1), 1);
        }
    }

    private static void whereLawsBreak() {
        of(TERMS, "A LAW BREAKS at the first row i (5, 3), or at the first i, then the first j, for which that is not so (0, 1: i below j; 2, 4: any).");
        Setup rows = k -> fill(k, 0, true, INTS, cells(1, 5), cells(2, 6), cells(2, 7), cells(1, 8), cells(1, 9));
        breaksAt(holdsIn(rows, TELLS, 1, 2, 0), 0, 3);
        breaksAt(holdsIn(rows, KEY, 1, 0, 0), 0, 3);
        breaksAt(holdsIn(rows, TELLS, 0, 1, 0), 0, 1);
        // i may be the higher one in 2 and 4.
        breaksAt(holdsIn(rows, ORDER, 1, 2, 0), 2, 1);
        Setup several = k -> fill(k, 0, true, INTS, cells(1, 1, 1), cells(1, 2, 2), cells(1, 1, 2));
        breaksAt(holdsIn(several, SEVERAL, 1, 2, 0), 1, 0);
        Setup falls = k -> fill(k, 0, true, INTS, cells(1, 3), cells(1, 3), cells(1, 4));
        breaksAt(holdsIn(falls, ORDER, 1, 2, 0), 2, 0);
        // Only the last two rows of 24 break it.
        Setup last = k -> {
            sized(k, 0, 2, 24);
            due(k.put(0, 22, 0, 1), 1);
            due(k.put(0, 23, 0, 1), 1);
            due(k.put(0, 22, 1, 1), 1);
            due(k.put(0, 23, 1, 2), 1);
        };
        breaksAt(holdsIn(last, TELLS, 1, 2, 0), 22, 23);
        breaksAt(holdsIn(last, KEY, 1, 0, 0), 22, 23);
        breaksAt(holdsIn(last, ORDER, 1, 2, 0), 23, 22);
        breaksAt(holdsIn(k -> {
            sized(k, 0, 1, 24);
            for (int r = 0; r < 23; r++) {
                due(k.put(0, r, 0, r), 1);
            }
        }, NEVER, 1, 0, 0), 23, NONE);
    }


    // ---- 3 what follows

    private static void widthAndForce() {
        of(TERMS, "==== 3 WIDTH n (4 at first): columns 0 .. n - 1 are ALL;");
        Finder k = new Finder();
        due(k.told(5), 4);
        due(k.closure(15), 15);
        due(k.closure(16), OUTSIDE);
        keysAre(k, 15);
        for (int n = 1; n <= 8; n++) {
            due(k.width(n), n == 1 ? 4 : n - 1);
            due(k.closure((1 << n) - 1), (1 << n) - 1);
            due(k.closure(1 << n), OUTSIDE);
            keysAre(k, (1 << n) - 1);
        }
        of(TERMS, "LAWS in force are those of KINDS 0, 1 that were not dropped;");
        k = new Finder();
        int[][] laws = {{TELLS, 1, 2}, {KEY, 4, 0}, {SEVERAL, 1, 8}, {NEVER, 1, 8}, {ORDER, 1, 8}, {WITHIN, 1, 3}};
        for (int law = 0; law < 6; law++) {
            due(k.law(laws[law][0], laws[law][1], laws[law][2]), law);
            due(k.told(1), Math.min(law + 1, 2));
            due(k.keeps(law), law < 2 ? 0 : STATE);
        }
        due(k.closure(1), 3);
        due(k.closure(4), 15);
        due(k.unlaw(0), 1);
        due(k.told(1), 1);
        due(k.keeps(0), STATE);
        due(k.closure(1), 1);
        due(k.unlaw(1), 1);
        due(k.told(1), 0);
        due(k.keeps(1), STATE);
        due(k.closure(4), 4);
        cutToAll();
    }

    private static void cutToAll() {
        of(TERMS, "their X, Y as far as they are within ALL (a KEY's Y is ALL).");
        Finder k = telling(4, 33, 66);
        due(k.closure(1), 3);
        due(k.width(6), 4);
        due(k.closure(1), 1);
        due(k.closure(33), 35);
        due(k.width(7), 6);
        due(k.closure(33), 99);
        due(k.width(1), 7);
        due(k.closure(1), 1);
        // With all of X outside, nothing is asked for; with all of Y outside, nothing is told.
        k = telling(4, 128, 1, 2, 128);
        due(k.closure(0), 1);
        due(k.closure(2), 3);
        due(k.told(1), 2);
        due(k.width(8), 4);
        due(k.closure(0), 0);
        due(k.closure(2), 131);
        // A KEY's Y is ALL of each WIDTH, whatever was given.
        k = new Finder();
        due(k.law(KEY, 1, 2), 0);
        for (int n = 1; n <= 8; n++) {
            due(k.width(n), n == 1 ? 4 : n - 1);
            due(k.closure(1), (1 << n) - 1);
            due(k.closure(0), 0);
        }
        due(k.law(KEY, 128, 0), 1);
        due(k.closure(128), 255);
        due(k.width(7), 8);
        due(k.closure(0), 127);
    }

    private static void closures() {
        of(TERMS, "THE CLOSURE of a set: it; then, as long as there is a LAW in force whose X is within it and whose Y is not,");
        Finder k = new Finder();
        for (int set = 0; set < 16; set++) {
            due(k.closure(set), set);
        }
        k = telling(8, 0, 1, 64, 128, 32, 64, 16, 32, 8, 16, 4, 8, 2, 4);
        due(k.closure(0), 1);
        due(k.closure(2), 255);
        due(k.closure(64), 193);
        due(k.closure(128), 129);
        due(k.closure(255), 255);
        // All of X has to be there, and all of Y comes.
        k = telling(4, 3, 12);
        due(k.closure(1), 1);
        due(k.closure(2), 2);
        due(k.closure(3), 15);
        due(k.closure(7), 15);
        of(TERMS, "by the least such number, that Y, too.");
        k = telling(4, 4, 8, 1, 2, 2, 4, 1, 8);
        due(k.follows(1, 8), 1);
        // LAW 1 brings column 1, LAW 2 column 2, then LAW 0, and not LAW 3, column 3.
        stepsAre(k, 1, 2, 0);
        of(TERMS, "X TELLS Y by them, if Y is within the CLOSURE of X.");
        for (int y = 0; y < 16; y++) {
            due(k.follows(1, y), 1);
            due(k.follows(4, y), (y & ~12) == 0 ? 1 : 0);
            due(k.follows(0, y), y == 0 ? 1 : 0);
        }
    }

    private static void keySets() {
        of(TERMS, "KEYS: sets whose CLOSURE is ALL, none of them without a column having that; by their numbers, rising.");
        keysAre(new Finder(), 15);
        keysAre(telling(3, 0, 7), 0);
        keysAre(telling(3, 0, 3), 4);
        keysAre(telling(1, 0, 1), 0);
        keysAre(telling(1), 1);
        keysAre(telling(3, 1, 6, 6, 1), 1, 6);
        keysAre(telling(3, 6, 1, 1, 6), 1, 6);
        keysAre(telling(8, 1, 2, 2, 4, 4, 8, 8, 16, 16, 32, 32, 64, 64, 128, 128, 1), 1, 2, 4, 8, 16, 32, 64, 128);
        // What has a KEY within it is none: 0, 1 has KEY 0; 1, 2 and 1, 3 have none.
        keysAre(telling(4, 1, 14, 6, 1, 10, 1), 1, 6, 10);
        Finder k = new Finder();
        due(k.law(KEY, 12, 0), 0);
        due(k.law(KEY, 14, 0), 1);
        due(k.law(KEY, 3, 0), 2);
        keysAre(k, 3, 12);
    }

    private static void covers() {
        of(TERMS, "THE COVER: of each LAW in force, by numbers, for each column of Y that is not in X, rising, one law X to it.");
        coverIs(new Finder());
        coverIs(telling(4, 1, 3), 1, 1);
        coverIs(telling(4, 3, 1));
        coverIs(telling(4, 1, 0));
        coverIs(telling(4, 8, 7), 8, 0, 8, 1, 8, 2);
        coverIs(telling(4, 4, 8, 1, 2), 4, 3, 1, 1);
        coverIs(telling(4, 17, 34), 1, 1);
        coverIs(telling(8, 0, 255), 0, 0, 0, 1, 0, 2, 0, 3, 0, 4, 0, 5, 0, 6, 0, 7);
        Finder k = telling(4, 1, 2, 4, 8);
        due(k.law(KEY, 2, 0), 2);
        due(k.law(SEVERAL, 8, 1), 3);
        coverIs(k, 1, 1, 4, 3, 2, 0, 2, 2);
        due(k.unlaw(2), 1);
        due(k.unlaw(0), 1);
        coverIs(k, 4, 3);
        shortened();
        leftOut();
    }

    private static void shortened() {
        of(TERMS, "Then of each of these, in order, columns of X, rising, each is left out, "
                + "if its CLOSURE (by THE COVER as it is then) of the rest has what it tells.");
        coverIs(telling(3, 3, 4), 3, 2);
        // Either of 0 and 1 could be left out: 0 is.
        coverIs(telling(3, 1, 2, 2, 1, 3, 4), 1, 1, 2, 0, 2, 2);
        coverIs(telling(3, 3, 4, 1, 2, 2, 1), 2, 2, 1, 1, 2, 0);
        // All of them, one after the other.
        coverIs(telling(4, 7, 8, 1, 2, 2, 4), 1, 3, 1, 1, 2, 2);
        coverIs(telling(3, 0, 2, 2, 4), 0, 1, 0, 2);
        coverIs(telling(8, 0, 127, 127, 128), 0, 0, 0, 1, 0, 2, 0, 3, 0, 4, 0, 5, 0, 6, 0, 7);
        coverIs(telling(8, 128, 64, 192, 1), 128, 6, 128, 0);
    }

    private static void leftOut() {
        of(TERMS, "Then each, in order, is left out that follows from the others that are there then.");
        coverIs(telling(3, 1, 2, 2, 4, 1, 4), 1, 1, 2, 2);
        // 0 to 1 follows by 0 to 2; behind it 0 to 2 would have followed by 0 to 1, which is there no more.
        coverIs(telling(3, 1, 2, 1, 4, 2, 4, 4, 2), 1, 2, 2, 2, 4, 1);
        // Of like ones the last stays.
        coverIs(telling(4, 1, 2, 4, 8, 1, 2), 4, 3, 1, 1);
        coverIs(telling(4, 1, 2, 1, 2, 1, 2, 4, 8), 1, 1, 4, 3);
        Finder k = new Finder();
        due(k.width(8), 4);
        for (int law = 0; law < 40; law++) {
            due(k.law(TELLS, 0, 255), law);
        }
        coverIs(k, 0, 0, 0, 1, 0, 2, 0, 3, 0, 4, 0, 5, 0, 6, 0, 7);
    }

    // ---- 3 parts

    private static void partsOfAll() {
        of(TERMS, "PARTS, 12 at most (none at first): sets.");
        Finder k = new Finder();
        partsAre(k);
        for (int n = 1; n <= 12; n++) {
            due(k.part(16 - n), n);
        }
        due(k.part(1), FULL);
        partsAre(k, 15, 14, 13, 12, 11, 10, 9, 8, 7, 6, 5, 4);
    }

    private static void thirdParts() {
        of(TERMS, "THIRD: of THE COVER, for each unlike X, by where it comes first, X and all that are told by laws with it;");
        thirdIs(telling(5, 1, 2, 4, 8, 1, 16), 19, 12, 5);
        thirdIs(telling(5, 4, 8, 1, 2, 1, 16), 12, 19, 5);
        thirdIs(telling(4, 1, 14, 2, 4), 11, 6);
        thirdIs(telling(2, 0, 1), 1, 2);
        of(TERMS, "those that are within another one (of like ones the later ones) are left out;");
        thirdIs(telling(3, 4, 1, 3, 4), 7);
        thirdIs(telling(3, 3, 4, 4, 1), 7);
        thirdIs(telling(5, 1, 2, 8, 16, 2, 1), 3, 24, 13);
        thirdIs(telling(3, 1, 2, 2, 1, 4, 3), 3, 6);
        of(TERMS, "if no KEY is within one, the least KEY, as the last.");
        thirdIs(new Finder(), 15);
        thirdIs(telling(1), 1);
        thirdIs(telling(8), 255);
        thirdIs(telling(3, 1, 2, 2, 1), 3, 5);
        thirdIs(telling(3, 0, 7), 7);
        thirdIs(telling(3, 1, 2, 2, 4), 3, 6);
        // A KEY that is not the least (0, 1) is within one: none is wanted.
        thirdIs(telling(6, 1, 4, 2, 8, 12, 48, 16, 1, 32, 2), 5, 10, 60, 17, 34);
    }

    private static void thirdIs(Finder k, int... sets) {
        due(k.third(), sets.length);
        partsAre(k, sets);
    }

    private static void strictParts() {
        of(TERMS, "STRICT: ALL at first; as long as there is one that is not strictly parted: the first such,");
        strictIs(new Finder(), 15);
        strictIs(telling(1), 1);
        strictIs(telling(8), 255);
        strictIs(telling(3, 1, 6), 7);
        strictIs(telling(5, 1, 2, 4, 8), 3, 12, 21);
        strictIs(telling(4, 1, 14, 2, 4, 4, 8), 12, 6, 3);
        of(TERMS, "by its least set S within it (as a number) whose CLOSURE has some column of it that is not in S, but not all of it:");
        strictIs(telling(4, 8, 4, 3, 4), 7, 11);
        strictIs(telling(3, 0, 2), 2, 5);
        strictIs(telling(3, 0, 7), 7);
        // By way of a column that is in another PART.
        strictIs(telling(4, 1, 2, 2, 4), 6, 3, 9);
        of(TERMS, "in its place what the CLOSURE of S has of it, and behind that the rest of it with S.");
        strictIs(telling(3, 1, 2), 3, 5);
        strictIs(telling(3, 4, 1), 5, 6);
        strictIs(telling(8, 128, 64, 63, 64, 79, 32, 80, 32, 100, 1, 104, 2),
                101, 106, 108, 85, 90, 92, 165, 170, 172, 149, 154, 156);
    }

    private static void strictIs(Finder k, int... sets) {
        due(k.strict(), sets.length);
        partsAre(k, sets);
    }

    private static void forms() {
        of(TERMS, "A set is in FORM 1 (third), if for each S within it, and each column c of it in the CLOSURE of S, not in S: "
                + "the CLOSURE of S has all of it, or c is in some least set within it whose CLOSURE has all of it;",
                "FORM 2 (strict), if for each such S that has any such c, its CLOSURE has all of it.");
        Finder k = new Finder();
        for (int set = 1; set < 16; set++) {
            due(k.form(set), 3);
        }
        k = telling(3, 1, 2);
        due(k.form(1), 3);
        due(k.form(3), 3);
        due(k.form(5), 3);
        due(k.form(7), 0);
        // 2 tells 0; least for 0, 1, 2 are 0, 1 and 1, 2: all its columns are in some.
        k = telling(3, 3, 4, 4, 1);
        due(k.form(7), 1);
        due(k.form(5), 3);
        due(k.form(6), 3);
        // Least within the set, not for ALL: 3 comes in by nothing else.
        k = telling(4, 3, 4, 4, 1);
        due(k.form(7), 1);
        due(k.form(15), 1);
        // S may be empty, and what it tells may be all of the set.
        k = telling(3, 0, 1);
        due(k.form(1), 3);
        due(k.form(3), 0);
        due(k.form(6), 3);
        // By way of a column outside the set.
        k = telling(4, 1, 2, 2, 4);
        due(k.form(5), 3);
        due(k.form(13), 0);
        // 0, 1 to 2, and 2 to 3: 3 is in no least set of 0 .. 3; without 3 all is well.
        k = telling(4, 3, 4, 4, 9);
        due(k.form(15), 0);
        due(k.form(7), 1);
        // Strict with a KEY of all eight columns, and third with one that cycles.
        k = telling(8, 1, 254);
        due(k.form(255), 3);
        k = telling(8, 127, 128, 128, 1);
        due(k.form(255), 1);
    }

    private static void chases() {
        of(TERMS, "PARTS are LOSSLESS, if the CHASE tells so: a row for each PART, the same sign 0 in its columns, else signs of their own;");
        losslessIs(1, new Finder(), 15);
        losslessIs(0, new Finder(), 7);
        losslessIs(0, new Finder(), 7, 14);
        losslessIs(1, new Finder(), 1, 15);
        losslessIs(1, telling(1), 1);
        of(TERMS, "for each LAW in force, for two rows with the same signs in X, those in a column of Y become one (0, if one is);");
        losslessIs(1, telling(3, 2, 4), 3, 6);
        losslessIs(1, telling(3, 2, 1), 3, 6);
        losslessIs(0, telling(3, 1, 2), 3, 6);
        losslessIs(0, telling(3, 3, 4), 3, 6);
        losslessIs(1, telling(3, 0, 4), 3, 6);
        // One row alone meets no other, though it meets what X asks.
        losslessIs(0, telling(3, 0, 4), 3);
        // Columns 3 of the first two become one, though neither is 0: so 1, and then 3 by the third.
        losslessIs(1, telling(4, 1, 8, 8, 2, 6, 8), 3, 5, 14);
        losslessIs(0, telling(4, 1, 8, 6, 8), 3, 5, 14);
        of(TERMS, "till nothing changes: some row has 0 in ALL.");
        // Laws told in the order in which they can not follow one another in a single go.
        losslessIs(1, telling(8, 64, 128, 32, 64, 16, 32, 8, 16, 4, 8, 2, 4, 1, 2), 1, 3, 6, 12, 24, 48, 96, 192);
        losslessIs(0, telling(8, 64, 128, 32, 64, 8, 16, 4, 8, 2, 4, 1, 2), 1, 3, 6, 12, 24, 48, 96, 192);
        losslessIs(1, telling(8, 64, 128, 32, 64, 16, 32, 8, 16, 4, 8, 2, 4, 1, 2), 1, 1, 1, 1, 1, 3, 6, 12, 24, 48, 96, 192);
        // Only ALL counts: what is outside is in no row.
        losslessIs(1, telling(2, 4, 8), 3);
    }

    private static void losslessIs(int want, Finder k, int... sets) {
        part(k, sets);
        due(k.lossless(), want);
    }

    private static void keeping() {
        of(TERMS, "They KEEP a LAW in force, if Y is got from X by taking, again and again, of each PART, "
                + "what the CLOSURE of what one has within it has within it.");
        // A ring of four: 3 to 0 is got by way of 2 and 1, against the order of the PARTS.
        Finder k = telling(4, 1, 2, 2, 4, 4, 8, 8, 1);
        part(k, 3, 6, 12);
        for (int law = 0; law < 4; law++) {
            due(k.keeps(law), 1);
        }
        due(k.lack(), 0);
        due(k.unlaw(3), 1);
        due(k.lack(), 0);
        // The CLOSURE goes by way of columns that are in no PART.
        k = telling(3, 1, 2, 2, 4, 1, 4);
        part(k, 5);
        due(k.keeps(0), 0);
        due(k.keeps(1), 0);
        due(k.keeps(2), 1);
        due(k.lack(), 2);
        // What X has itself is got without PARTS; nothing else is.
        k = telling(4, 3, 1, 1, 0, 0, 0, 0, 1, 1, 16);
        int[] kept = {1, 1, 1, 0, 1};
        for (int law = 0; law < 5; law++) {
            due(k.keeps(law), kept[law]);
        }
        due(k.lack(), 1);
        // All of Y has to be got; what an empty set tells is got of any PART that has it.
        k = telling(4, 0, 1, 2, 12);
        part(k, 5, 6);
        due(k.keeps(0), 1);
        due(k.keeps(1), 0);
        due(k.part(10), 3);
        due(k.keeps(1), 1);
        // A KEY tells ALL.
        k = new Finder();
        due(k.law(KEY, 1, 0), 0);
        part(k, 7);
        due(k.keeps(0), 0);
        due(k.part(9), 2);
        due(k.keeps(0), 1);
        due(k.width(3), 4);
        due(k.part(7), 1);
        due(k.keeps(0), 1);
    }
}
