/** For each promise of the document: ordinary calls, the edges it names, and wrong ones. */
public final class KeyFinderPromisesTest {
    private static final int UNKNOWN = -1, OUTSIDE = -2, STATE = -3, FULL = -4, NONE = -9;
    private static final int NULL = -11, CAST = -12, INDEX = -13, SIZE = -14;
    private static final long LOST = Long.MIN_VALUE;
    private static final long NAN = 0x7ff8000000000000L;
    private static final int MIN = Integer.MIN_VALUE, MAX = Integer.MAX_VALUE;

    private static int wrong = 0;
    private static String promise = "";
    private static int asked = 0;

    private static void due(long got, long want) {
        asked++;
        if (got != want) {
            wrong++;
            System.out.println(promise + ", question " + asked + ": " + Finder.latest + ", due is " + want);
        }
    }

    private static void begin(String name) {
        promise = name;
        asked = 0;
    }

    private static void sayEnd() {
        System.out.println(wrong == 0 ? "promises: all answers are as due" : "promises: " + wrong + " are not as due");
        if (wrong != 0) {
            System.exit(1);
        }
    }

    private static long bits(double d) {
        return Double.doubleToLongBits(d);
    }

    /** A finder with TABLE t of columns of ints; null is a missing cell. */
    private static void fill(Finder k, int t, boolean areLike, int lane, Integer[][] rows) {
        due(k.table(t, areLike), 1);
        for (int c = 0; c < rows[0].length; c++) {
            due(k.column(t, lane), c);
        }
        due(k.rows(t, rows.length), rows.length);
        for (int r = 0; r < rows.length; r++) {
            for (int c = 0; c < rows[r].length; c++) {
                if (rows[r][c] != null) {
                    due(k.put(t, r, c, rows[r][c]), 1);
                }
            }
        }
    }

    private static Finder with(boolean areLike, Integer[][] rows) {
        Finder k = new Finder();
        fill(k, 0, areLike, 3, rows);
        return k;
    }

    private static Integer[] row(Integer... cells) {
        return cells;
    }

    /** A finder of a width with TELLS laws, told as pairs x, y. */
    private static Finder telling(int width, int... pairs) {
        Finder k = new Finder();
        due(k.width(width), 4);
        for (int i = 0; i < pairs.length; i += 2) {
            due(k.law(0, pairs[i], pairs[i + 1]), i / 2);
        }
        return k;
    }

    private static void parts(Finder k, int... sets) {
        due(k.told(3), sets.length);
        for (int i = 0; i < sets.length; i++) {
            due(k.parted(i), sets[i]);
        }
        due(k.parted(sets.length), UNKNOWN);
    }

    private static void breaks(Finder k, int i, int j) {
        due(k.broken(0), i);
        due(k.broken(1), j);
    }

    public static void main(String[] args) {
        newObject();
        tables();
        drops();
        columns();
        rowsMore();
        puts();
        missing();
        reading();
        copies();
        abouts();
        likes();
        lawsMore();
        unlaws();
        says();
        holdsTells();
        holdsSeveral();
        holdsNever();
        holdsOrder();
        holdsWithin();
        holdRefusals();
        brokens();
        finds();
        founds();
        missesOf();
        twices();
        widths();
        closures();
        followings();
        keysOf();
        primes();
        covers();
        thirds();
        stricts();
        partsByHand();
        forms();
        losslessOnes();
        keeping();
        projects();
        joins();
        faults();
        tolds();
        sayEnd();
    }

    private static void newObject() {
        begin("1 a new object");
        Finder k = new Finder();
        for (int t = 0; t < 4; t++) {
            due(k.about(t, 0), UNKNOWN);
        }
        due(k.say(0, 0, 0), UNKNOWN);
        due(k.parted(0), UNKNOWN);
        due(k.told(0), 0);
        due(k.told(1), 0);
        due(k.told(2), 0);
        due(k.told(3), 0);
        due(k.told(4), 0);
        due(k.told(5), 4);
        due(k.fault(), 0);
        due(k.broken(0), NONE);
        due(k.broken(1), NONE);
        due(KeyFinder.UNKNOWN, UNKNOWN);
        due(KeyFinder.OUTSIDE, OUTSIDE);
        due(KeyFinder.STATE, STATE);
        due(KeyFinder.FULL, FULL);
        due(KeyFinder.NONE, NONE);
        due(KeyFinder.LOST, LOST);
    }

    private static void tables() {
        begin("2 table");
        Finder k = new Finder();
        for (int t : new int[] {-1, 4, MIN, MAX}) {
            due(k.table(t, true), UNKNOWN);
        }
        due(k.table(3, true), 1);
        due(k.about(3, 2), 1);
        due(k.about(2, 2), UNKNOWN);
        due(k.column(3, 0), 0);
        due(k.rows(3, 2), 2);
        due(k.put(3, 1, 0, 5), 1);
        due(k.table(3, false), 1);
        due(k.about(3, 0), 0);
        due(k.about(3, 1), 0);
        due(k.about(3, 2), 0);
        // What stood in the cells before is gone.
        due(k.column(3, 0), 0);
        due(k.rows(3, 2), 2);
        due(k.at(3, 1, 0, 0), LOST);
        due(k.about(3, 3), 2);
    }

    private static void drops() {
        begin("3 drop");
        Finder k = new Finder();
        due(k.drop(-1), UNKNOWN);
        due(k.drop(4), UNKNOWN);
        due(k.drop(0), 0);
        due(k.table(0, true), 1);
        due(k.drop(0), 1);
        due(k.drop(0), 0);
        due(k.about(0, 0), UNKNOWN);
        due(k.put(0, 0, 0, 1), NULL);
    }

    private static void columns() {
        begin("4 column");
        Finder k = new Finder();
        due(k.column(0, 0), UNKNOWN);
        due(k.column(0, 9), UNKNOWN);
        due(k.column(-1, 0), UNKNOWN);
        due(k.column(4, 0), UNKNOWN);
        due(k.table(0, true), 1);
        due(k.column(0, -1), OUTSIDE);
        due(k.column(0, 6), OUTSIDE);
        for (int c = 0; c < 8; c++) {
            due(k.column(0, c % 6), c);
        }
        due(k.column(0, 6), OUTSIDE);
        due(k.column(0, 0), FULL);
        due(k.rows(0, 0), 0);
        due(k.column(0, 0), FULL);
        due(k.rows(0, 1), 1);
        due(k.column(0, 0), STATE);
        due(k.column(0, 6), OUTSIDE);
        // A TABLE without columns may have rows, and then gets none.
        due(k.table(1, true), 1);
        due(k.rows(1, 3), 3);
        due(k.column(1, 0), STATE);
        due(k.about(1, 3), 0);
    }

    private static void rowsMore() {
        begin("5 rows");
        Finder k = new Finder();
        due(k.rows(0, -1), UNKNOWN);
        due(k.fault(), 0);
        due(k.rows(4, 1), UNKNOWN);
        due(k.table(0, false), 1);
        due(k.column(0, 4), 0);
        due(k.rows(0, 25), OUTSIDE);
        due(k.rows(0, MAX), OUTSIDE);
        due(k.rows(0, -1), SIZE);
        due(k.fault(), 4);
        due(k.rows(0, MIN), SIZE);
        due(k.rows(0, 25), OUTSIDE);
        due(k.fault(), 0);
        due(k.rows(0, 0), 0);
        due(k.rows(0, 10), 10);
        due(k.about(0, 3), 10);
        due(k.rows(0, 15), FULL);
        due(k.about(0, 1), 10);
        due(k.rows(0, 14), 24);
        due(k.rows(0, 0), 24);
        due(k.rows(0, 1), FULL);
        due(k.rows(0, 25), OUTSIDE);
        due(k.rows(0, -1), SIZE);
    }

    private static void puts() {
        begin("6 put");
        Finder k = new Finder();
        due(k.put(-1, 0, 0, 1), UNKNOWN);
        due(k.fault(), 0);
        due(k.put(4, 0, 0, 1), UNKNOWN);
        due(k.put(2, 0, 0, 1), NULL);
        due(k.fault(), 1);
        due(k.table(0, true), 1);
        for (int lane = 0; lane < 6; lane++) {
            due(k.column(0, lane), lane);
        }
        due(k.put(0, 0, 0, 1), INDEX);
        due(k.rows(0, 2), 2);
        due(k.put(0, 2, 0, 1), INDEX);
        due(k.put(0, -1, 0, 1), INDEX);
        due(k.put(0, 0, 6, 1), INDEX);
        due(k.put(0, 0, -1, 1), INDEX);
        due(k.fault(), 3);
        due(k.put(0, MIN, MAX, 1), INDEX);
        due(k.about(0, 3), 12);
        lane(k, 0, 0x1ffL, -1);
        lane(k, 0, 128, -128);
        lane(k, 1, 0x18000L, -32768);
        lane(k, 1, 32767, 32767);
        lane(k, 2, -1, 65535);
        lane(k, 2, 0x10041L, 0x41);
        lane(k, 3, 0x1_8000_0000L, MIN);
        lane(k, 3, 2147483647L, MAX);
        lane(k, 4, Long.MAX_VALUE, Long.MAX_VALUE);
        lane(k, 4, -5, -5);
        lane(k, 5, bits(1.5), bits(1.5));
        lane(k, 5, bits(-0.0), 0);
        lane(k, 5, bits(-2.0), bits(-2.0));
        lane(k, 5, 1, 1);
        lane(k, 5, bits(Double.POSITIVE_INFINITY), bits(Double.POSITIVE_INFINITY));
        lane(k, 5, bits(Double.NEGATIVE_INFINITY), bits(Double.NEGATIVE_INFINITY));
        lane(k, 5, 0x7ff0000000000001L, NAN);
        lane(k, 5, 0xfff8000000000000L, NAN);
        lane(k, 5, -1, NAN);
        due(k.put(0, 0, 4, Long.MIN_VALUE), 1);
        due(k.at(0, 0, 4, 4), LOST);
        due(k.miss(0, 0, 4), 1);
    }

    private static void lane(Finder k, int lane, long v, long want) {
        due(k.put(0, 1, lane, v), 1);
        due(k.fault(), 0);
        due(k.at(0, 1, lane, lane), want);
    }

    private static void missing() {
        begin("7 miss");
        Finder k = new Finder();
        due(k.miss(4, 0, 0), UNKNOWN);
        due(k.miss(-1, 0, 0), UNKNOWN);
        due(k.miss(0, 0, 0), NULL);
        due(k.fault(), 1);
        due(k.table(0, true), 1);
        due(k.column(0, 0), 0);
        due(k.rows(0, 1), 1);
        due(k.miss(0, 0, 0), 0);
        due(k.fault(), 0);
        due(k.put(0, 0, 0, 7), 1);
        due(k.about(0, 3), 0);
        due(k.miss(0, 0, 0), 1);
        due(k.about(0, 3), 1);
        due(k.at(0, 0, 0, 0), LOST);
        due(k.miss(0, 0, 0), 0);
        due(k.miss(0, 1, 0), INDEX);
        due(k.miss(0, 0, 1), INDEX);
        due(k.miss(0, -1, 0), INDEX);
        due(k.miss(0, 0, -1), INDEX);
        due(k.fault(), 3);
    }

    private static void reading() {
        begin("8 at");
        Finder k = new Finder();
        read(k, 4, 0, 0, 0, LOST, 0);
        read(k, -1, 0, 0, 9, LOST, 0);
        read(k, 0, 0, 0, 0, LOST, 1);
        // A wrong lane is refused ahead of all that the machine would come to.
        read(k, 0, 0, 0, 6, LOST, 0);
        read(k, 0, 0, 0, -1, LOST, 0);
        due(k.table(0, true), 1);
        due(k.column(0, 2), 0);
        due(k.rows(0, 2), 2);
        due(k.put(0, 1, 0, 65), 1);
        read(k, 0, 1, 0, 2, 65, 0);
        read(k, 0, 0, 0, 2, LOST, 0);
        read(k, 0, 1, 1, 2, LOST, 3);
        read(k, 0, 1, -1, 3, LOST, 3);
        read(k, 0, 1, 0, 3, LOST, 2);
        // The column is cast ahead of the row.
        read(k, 0, 5, 0, 3, LOST, 2);
        read(k, 0, 5, 0, 2, LOST, 3);
        read(k, 0, -1, 0, 2, LOST, 3);
        read(k, 0, 2, 0, 2, LOST, 3);
    }

    private static void read(Finder k, int t, int row, int column, int lane, long want, int fault) {
        due(k.at(t, row, column, lane), want);
        due(k.fault(), fault);
    }

    private static void copies() {
        begin("9 copy");
        Finder k = new Finder();
        due(k.copy(0, 0, 0, 0, 0, 0), UNKNOWN);
        due(k.copy(4, 0, 0, 0, 0, 0), UNKNOWN);
        due(k.fault(), 0);
        due(k.table(0, true), 1);
        due(k.column(0, 3), 0);
        due(k.column(0, 3), 1);
        due(k.column(0, 4), 2);
        due(k.rows(0, 5), 5);
        due(k.copy(0, 3, 0, 0, 0, 0), UNKNOWN);
        due(k.copy(0, 0, 0, 3, 0, 0), UNKNOWN);
        due(k.copy(0, -1, 0, 0, 0, -1), UNKNOWN);
        due(k.copy(0, 0, 0, 2, 0, -1), STATE);
        due(k.fault(), 0);
        int[][] beyond = {{-1, 0, 1}, {0, -1, 1}, {0, 0, -1}, {0, 0, 6}, {5, 0, 1}, {0, 5, 1}, {3, 0, 3}, {0, 3, 3},
            {6, 0, 0}, {0, 6, 0}, {MAX, 0, MAX}, {0, MAX, 1}, {MIN, MIN, MIN}, {1, 1, MAX}};
        for (int[] b : beyond) {
            due(k.copy(0, 0, b[0], 1, b[1], b[2]), INDEX);
            due(k.fault(), 3);
        }
        due(k.copy(0, 0, 5, 1, 5, 0), 0);
        due(k.fault(), 0);
        for (int r = 0; r < 4; r++) {
            due(k.put(0, r, 0, 10 + r), 1);
        }
        due(k.put(0, 3, 1, 99), 1);
        due(k.miss(0, 1, 0), 1);
        due(k.copy(0, 0, 0, 1, 2, 3), 3);
        column(k, 1, LOST, LOST, 10, LOST, 12);
        column(k, 0, 10, LOST, 12, 13, LOST);
        // Within one column the cells go as they were, both ways.
        due(k.copy(0, 0, 0, 0, 1, 4), 4);
        column(k, 0, 10, 10, LOST, 12, 13);
        due(k.copy(0, 0, 2, 0, 0, 3), 3);
        column(k, 0, LOST, 12, 13, 12, 13);
        due(k.copy(0, 0, 0, 0, 0, 5), 5);
        column(k, 0, LOST, 12, 13, 12, 13);
    }

    private static void column(Finder k, int column, long... want) {
        for (int r = 0; r < want.length; r++) {
            due(k.at(0, r, column, 3), want[r]);
        }
    }

    private static void abouts() {
        begin("10 about");
        Finder k = new Finder();
        due(k.about(0, 0), UNKNOWN);
        due(k.about(0, -1), UNKNOWN);
        due(k.about(4, 0), UNKNOWN);
        due(k.table(0, false), 1);
        due(k.about(0, 4), OUTSIDE);
        due(k.column(0, 5), 0);
        due(k.column(0, 2), 1);
        due(k.rows(0, 3), 3);
        due(k.put(0, 0, 0, 0), 1);
        due(k.about(0, 0), 2);
        due(k.about(0, 1), 3);
        due(k.about(0, 2), 0);
        due(k.about(0, 3), 5);
        due(k.about(0, 4), 5);
        due(k.about(0, 5), 2);
        due(k.about(0, 6), OUTSIDE);
        due(k.about(0, -1), OUTSIDE);
        due(k.about(0, MAX), OUTSIDE);
        due(k.about(0, MIN), OUTSIDE);
    }

    private static void likes() {
        begin("11 like");
        for (int areLike = 0; areLike < 2; areLike++) {
            Finder k = with(areLike == 1, new Integer[][] {row(1, 2, null), row(1, 3, null), row(1, 2, 4)});
            due(k.like(0, 0, 1, 0), 1);
            due(k.like(0, 0, 1, 1), 1);
            due(k.like(0, 0, 1, 3), 0);
            due(k.like(0, 0, 2, 3), 1);
            due(k.like(0, 0, 1, 4), areLike);
            due(k.like(0, 0, 2, 4), 0);
            due(k.like(0, 2, 0, 4), 0);
            due(k.like(0, 0, 1, 5 + 248), areLike);
            due(k.like(0, 0, 2, 248), 1);
            due(k.like(0, 2, 2, 7), 1);
            due(k.like(0, 0, 0, 4), areLike);
            due(k.like(0, 3, 0, 0), UNKNOWN);
            due(k.like(0, 0, 3, 0), UNKNOWN);
            due(k.like(0, -1, 0, 256), UNKNOWN);
            due(k.like(0, 0, -1, 0), UNKNOWN);
            due(k.like(1, 0, 0, 0), UNKNOWN);
            due(k.like(0, 0, 0, 256), OUTSIDE);
            due(k.like(0, 0, 0, -1), OUTSIDE);
        }
        Finder k = new Finder();
        due(k.table(0, false), 1);
        due(k.column(0, 5), 0);
        due(k.rows(0, 3), 3);
        due(k.put(0, 0, 0, bits(-0.0)), 1);
        due(k.put(0, 1, 0, 0), 1);
        due(k.like(0, 0, 1, 1), 1);
        due(k.put(0, 0, 0, NAN + 1), 1);
        due(k.put(0, 1, 0, -2), 1);
        due(k.like(0, 0, 1, 1), 1);
    }

    private static void lawsMore() {
        begin("12 law");
        Finder k = new Finder();
        int[][] outside = {{-1, 0, 0}, {6, 0, 0}, {0, -1, 0}, {0, 256, 0}, {0, 0, -1}, {0, 0, 256}, {1, 256, 0},
            {2, 256, 0}, {2, 0, 256}, {3, -1, 0}, {4, 0, 1}, {4, 1, 0}, {4, 3, 1}, {4, 1, 3}, {4, 256, 1}, {4, 1, 256},
            {4, MIN, 1}, {4, 1, MIN}, {5, 0, 4}, {5, 0, -1}, {5, 256, 0}, {MAX, 1, 1}};
        for (int[] o : outside) {
            due(k.law(o[0], o[1], o[2]), OUTSIDE);
        }
        due(k.told(0), 0);
        due(k.law(0, 255, 0), 0);
        due(k.law(1, 0, -7), 1);
        due(k.law(2, 1, 255), 2);
        due(k.law(3, 255, 256), 3);
        due(k.law(4, 128, 128), 4);
        due(k.law(5, 0, 3), 5);
        for (int n = 6; n < 40; n++) {
            due(k.law(0, 1, 2), n);
        }
        due(k.law(0, 1, 2), FULL);
        due(k.law(6, 1, 2), OUTSIDE);
        // A dropped one leaves no room: 40 ever.
        due(k.unlaw(7), 1);
        due(k.law(0, 1, 2), FULL);
        due(k.told(0), 40);
    }

    private static void unlaws() {
        begin("13 unlaw");
        Finder k = telling(4, 1, 2);
        due(k.closure(1), 3);
        due(k.unlaw(-1), UNKNOWN);
        due(k.unlaw(1), UNKNOWN);
        due(k.unlaw(0), 1);
        due(k.closure(1), 1);
        due(k.unlaw(0), 0);
        due(k.say(0, 0, 2), 1);
        due(k.told(0), 1);
        due(k.told(1), 0);
        due(k.law(0, 1, 4), 1);
        due(k.closure(1), 5);
    }

    private static void says() {
        begin("14 say");
        Finder k = new Finder();
        int[][] laws = {{0, 3, 4}, {1, 5, 0}, {2, 1, 6}, {3, 9, 0}, {4, 2, 8}, {5, 7, 3}};
        for (int n = 0; n < 6; n++) {
            due(k.law(laws[n][0], laws[n][1], laws[n][2]), n);
        }
        for (int n = 0; n < 6; n++) {
            for (int as = 0; as < 6; as++) {
                boolean fits = as == n || as == 0 && (n == 1 || n == 2 || n == 4);
                due(k.say(n, as, 0), fits ? laws[n][1] : CAST);
                due(k.fault(), fits ? 0 : 2);
                // What the Y of a KEY and of a NEVER is told as, the document leaves open.
                if (!fits || n != 1 && n != 3) {
                    due(k.say(n, as, 1), fits ? laws[n][2] : CAST);
                }
                due(k.say(n, as, 2), fits ? 0 : CAST);
            }
        }
        due(k.unlaw(4), 1);
        due(k.say(4, 0, 2), 1);
        due(k.say(4, 4, 0), 2);
        due(k.say(0, 1, 0), CAST);
        due(k.fault(), 2);
        due(k.say(6, 9, 9), UNKNOWN);
        due(k.fault(), 0);
        due(k.say(-1, 0, 0), UNKNOWN);
        due(k.say(0, -1, 0), OUTSIDE);
        due(k.say(0, 6, 0), OUTSIDE);
        due(k.say(0, 1, 3), OUTSIDE);
        due(k.say(0, 0, -1), OUTSIDE);
    }

    private static void holdsTells() {
        begin("15 hold, 0 and 1");
        Finder k = with(true, new Integer[][] {row(1, 1, 1), row(2, 2, 1), row(1, 1, 2), row(2, 3, 1)});
        due(k.law(0, 1, 2), 0);
        due(k.law(0, 2, 1), 1);
        due(k.law(1, 2, 0), 2);
        due(k.law(1, 6, 0), 3);
        due(k.law(0, 0, 1), 4);
        due(k.law(0, 7, 0), 5);
        due(k.hold(0, 0), 0);
        breaks(k, 1, 3);
        due(k.hold(0, 1), 1);
        breaks(k, NONE, NONE);
        due(k.hold(0, 2), 0);
        breaks(k, 0, 2);
        due(k.hold(0, 3), 1);
        due(k.hold(0, 4), 0);
        breaks(k, 0, 1);
        due(k.hold(0, 5), 1);
        // A law looks at the cells as they are now.
        due(k.put(0, 3, 1, 2), 1);
        due(k.hold(0, 0), 1);
        for (int areLike = 0; areLike < 2; areLike++) {
            k = with(areLike == 1, new Integer[][] {row(null, 1), row(null, 2), row(3, null), row(3, null)});
            due(k.law(0, 1, 2), 0);
            due(k.hold(0, 0), 0);
            breaks(k, areLike == 1 ? 0 : 2, areLike == 1 ? 1 : 3);
            due(k.law(1, 1, 0), 1);
            due(k.hold(0, 1), 0);
            due(k.law(0, 3, 1), 2);
            due(k.hold(0, 2), 1);
        }
    }

    private static void holdsSeveral() {
        begin("15 hold, 2");
        Finder k = with(true, new Integer[][] {row(1, 1, 1), row(1, 2, 2), row(1, 1, 2), row(1, 2, 1), row(2, 5, 5)});
        due(k.law(2, 1, 2), 0);
        due(k.hold(0, 0), 1);
        breaks(k, NONE, NONE);
        due(k.put(0, 2, 0, 2), 1);
        due(k.hold(0, 0), 0);
        breaks(k, 0, 1);
        // Rows 0 and 1 take one another's cells, as row 3 is there; only the other way fails.
        due(k.put(0, 2, 0, 1), 1);
        due(k.put(0, 3, 0, 2), 1);
        due(k.hold(0, 0), 0);
        breaks(k, 1, 0);
        due(k.law(2, 7, 0), 1);
        due(k.hold(0, 1), 1);
        due(k.law(2, 0, 7), 2);
        due(k.hold(0, 2), 1);
        due(k.law(2, 0, 1), 3);
        due(k.hold(0, 3), 0);
        breaks(k, 0, 3);
        // A missing cell that is like none is not even like its own row's.
        for (int areLike = 0; areLike < 2; areLike++) {
            k = with(areLike == 1, new Integer[][] {row(1, null, 1), row(1, null, 1)});
            due(k.law(2, 1, 2), 0);
            due(k.hold(0, 0), areLike);
            breaks(k, areLike == 1 ? NONE : 0, areLike == 1 ? NONE : 1);
        }
    }

    private static void holdsNever() {
        begin("15 hold, 3");
        Finder k = with(true, new Integer[][] {row(1, 1), row(1, null), row(null, 2)});
        due(k.law(3, 1, 0), 0);
        due(k.law(3, 3, 0), 1);
        due(k.law(3, 0, 0), 2);
        due(k.hold(0, 0), 0);
        breaks(k, 2, NONE);
        due(k.hold(0, 1), 0);
        breaks(k, 1, NONE);
        due(k.hold(0, 2), 1);
        due(k.put(0, 2, 0, 0), 1);
        due(k.hold(0, 0), 1);
        breaks(k, NONE, NONE);
    }

    private static void holdsOrder() {
        begin("15 hold, 4");
        Finder k = with(true, new Integer[][] {row(1, 5), row(3, 7), row(2, 5), row(4, null), row(null, 0)});
        due(k.law(4, 1, 2), 0);
        due(k.law(4, 2, 1), 1);
        due(k.law(4, 1, 1), 2);
        due(k.hold(0, 0), 1);
        due(k.hold(0, 1), 0);
        breaks(k, 2, 0);
        due(k.hold(0, 2), 1);
        // Rows with the same in X must have the same in Y, too.
        due(k.put(0, 2, 0, 1), 1);
        due(k.hold(0, 1), 1);
        due(k.put(0, 2, 1, 6), 1);
        due(k.hold(0, 0), 0);
        breaks(k, 2, 0);
        due(k.put(0, 3, 1, -1), 1);
        due(k.hold(0, 0), 0);
        breaks(k, 0, 3);
        k = new Finder();
        due(k.table(0, true), 1);
        due(k.column(0, 5), 0);
        due(k.column(0, 0), 1);
        double[] rising = {Double.NEGATIVE_INFINITY, -2.0, -1.0, -Double.MIN_VALUE, 0.0, Double.MIN_VALUE, 1.0,
            Double.POSITIVE_INFINITY, Double.NaN};
        due(k.rows(0, rising.length), rising.length);
        for (int r = 0; r < rising.length; r++) {
            due(k.put(0, r, 0, bits(rising[r])), 1);
            due(k.put(0, r, 1, r), 1);
        }
        due(k.law(4, 1, 2), 0);
        due(k.law(4, 2, 1), 1);
        due(k.hold(0, 0), 1);
        due(k.hold(0, 1), 1);
        due(k.put(0, 3, 0, bits(-1.5)), 1);
        due(k.hold(0, 0), 0);
        breaks(k, 3, 2);
        due(k.hold(0, 1), 0);
        breaks(k, 2, 3);
    }

    private static void holdsWithin() {
        begin("15 hold, 5");
        Finder k = with(false, new Integer[][] {row(1, 2), row(null, 9), row(3, 4), row(1, 2)});
        fill(k, 1, false, 3, new Integer[][] {row(3, 4, 0), row(1, null, 0), row(1, 2, 0)});
        due(k.law(5, 3, 1), 0);
        due(k.law(5, 1, 1), 1);
        due(k.law(5, 0, 1), 2);
        due(k.law(5, 3, 0), 3);
        due(k.hold(0, 0), 1);
        breaks(k, NONE, NONE);
        due(k.put(0, 1, 0, 5), 1);
        due(k.hold(0, 0), 0);
        breaks(k, 1, NONE);
        due(k.hold(0, 1), 0);
        due(k.put(0, 1, 0, 1), 1);
        due(k.hold(0, 0), 0);
        due(k.hold(0, 1), 1);
        // Missing cells there are not taken for missing ones, nor for any value.
        due(k.miss(1, 2, 1), 1);
        due(k.hold(0, 0), 0);
        breaks(k, 0, NONE);
        due(k.hold(0, 3), 1);
        due(k.hold(0, 2), 1);
        due(k.table(1, true), 1);
        due(k.hold(0, 2), 0);
        breaks(k, 0, NONE);
        // The same numbers in another lane are not the same.
        fill(k, 1, false, 4, new Integer[][] {row(1, 2), row(3, 4), row(1, 9)});
        due(k.hold(0, 1), 0);
        breaks(k, 0, NONE);
        due(k.hold(0, 2), 1);
    }

    private static void holdRefusals() {
        begin("15 hold, refusals");
        Finder k = with(true, new Integer[][] {row(1, 2)});
        due(k.hold(0, 0), UNKNOWN);
        int[][] beyond = {{0, 4, 0}, {0, 0, 4}, {1, 4, 0}, {2, 4, 1}, {2, 1, 4}, {3, 5, 0}, {4, 4, 1}, {4, 1, 4},
            {5, 4, 0}, {5, 1, 1}};
        for (int n = 0; n < beyond.length; n++) {
            due(k.law(beyond[n][0], beyond[n][1], beyond[n][2]), n);
            due(k.hold(0, n), STATE);
        }
        due(k.law(1, 1, 255), 10);
        due(k.hold(0, 10), 1);
        due(k.law(3, 1, 255), 11);
        due(k.hold(0, 11), 1);
        due(k.hold(1, 11), UNKNOWN);
        due(k.hold(-1, 11), UNKNOWN);
        due(k.hold(4, 11), UNKNOWN);
        due(k.hold(0, 12), UNKNOWN);
        due(k.hold(0, -1), UNKNOWN);
        due(k.unlaw(11), 1);
        due(k.hold(0, 11), STATE);
        // The other TABLE must have the columns, too.
        due(k.law(5, 2, 1), 12);
        fill(k, 1, true, 3, new Integer[][] {row(1)});
        due(k.hold(0, 12), STATE);
        due(k.hold(0, 9), 1);
        due(k.drop(1), 1);
        due(k.hold(0, 9), STATE);
    }

    private static void brokens() {
        begin("16 broken");
        Finder k = with(true, new Integer[][] {row(1, 2), row(1, 3)});
        breaks(k, NONE, NONE);
        due(k.broken(2), OUTSIDE);
        due(k.broken(-1), OUTSIDE);
        due(k.law(0, 1, 2), 0);
        due(k.law(3, 1, 0), 1);
        due(k.hold(0, 0), 0);
        breaks(k, 0, 1);
        // A refused hold() leaves it.
        due(k.hold(0, 7), UNKNOWN);
        breaks(k, 0, 1);
        due(k.drop(0), 1);
        breaks(k, 0, 1);
        due(k.hold(0, 1), UNKNOWN);
        breaks(k, 0, 1);
        fill(k, 0, true, 3, new Integer[][] {row(1)});
        due(k.hold(0, 0), STATE);
        breaks(k, 0, 1);
        due(k.hold(0, 1), 1);
        breaks(k, NONE, NONE);
    }

    private static void finds() {
        begin("17 find");
        Finder k = with(true, new Integer[][] {row(1, 1, 7, 1), row(1, 2, 7, 2), row(2, 1, 7, 3), row(2, 2, 7, 4)});
        // Column 2 is the same everywhere; column 3 tells all; 0 and 1 together tell 3.
        due(k.find(0), 4);
        int[][] want = {{8, 0}, {8, 1}, {0, 2}, {3, 3}};
        for (int i = 0; i < want.length; i++) {
            due(k.found(i, 0), want[i][0]);
            due(k.found(i, 1), want[i][1]);
        }
        due(k.told(2), 4);
        due(k.find(1), UNKNOWN);
        due(k.find(-1), UNKNOWN);
        due(k.find(4), UNKNOWN);
        due(k.told(2), 4);
        // Missing cells that are like none are told by what no two rows have alike.
        k = with(false, new Integer[][] {row(null, null), row(null, 1)});
        due(k.find(0), 2);
        due(k.found(0, 0), 2);
        due(k.found(0, 1), 0);
        due(k.found(1, 0), 1);
        due(k.found(1, 1), 1);
        k = with(true, new Integer[][] {row(null, null), row(null, 1)});
        due(k.find(0), 1);
        due(k.found(0, 0), 0);
        due(k.found(0, 1), 0);
        // Without two rows all is told by nothing.
        k = with(true, new Integer[][] {row(1, 2, 3)});
        due(k.find(0), 3);
        due(k.found(2, 0), 0);
        due(k.found(2, 1), 2);
        due(k.table(0, true), 1);
        due(k.find(0), 0);
        due(k.told(2), 0);
    }

    private static void founds() {
        begin("18 found");
        Finder k = with(true, new Integer[][] {row(1, 2), row(2, 2)});
        due(k.found(0, 0), UNKNOWN);
        due(k.find(0), 1);
        due(k.found(0, 0), 0);
        due(k.found(0, 1), 1);
        due(k.found(0, 2), OUTSIDE);
        due(k.found(0, -1), OUTSIDE);
        due(k.found(1, 2), UNKNOWN);
        due(k.found(-1, 0), UNKNOWN);
        // What was FOUND stays, whatever becomes of the TABLE.
        due(k.drop(0), 1);
        due(k.found(0, 1), 1);
    }

    private static void missesOf() {
        begin("19 misses");
        Integer[][] rows = {row(1, 1), row(1, 2), row(1, 2), row(2, 3), row(2, 3), row(3, 1), row(1, null),
            row(1, null), row(1, null), row(null, 5), row(null, 6)};
        Finder k = with(true, rows);
        due(k.misses(0, 1, 2), 3 + 1);
        due(k.misses(0, 2, 1), 1);
        due(k.misses(0, 0, 1), 11 - 6);
        due(k.misses(0, 1, 0), 0);
        due(k.misses(0, 3, 3), 0);
        due(k.misses(0, 1, 3), 4);
        k = with(false, rows);
        due(k.misses(0, 1, 2), 4);
        due(k.misses(0, 2, 1), 1);
        due(k.misses(0, 0, 2), 11 - 2);
        due(k.misses(0, 0, 0), 0);
        due(k.misses(0, 1, 4), STATE);
        due(k.misses(0, 4, 1), STATE);
        due(k.misses(0, 256, 1), OUTSIDE);
        due(k.misses(0, 1, -1), OUTSIDE);
        due(k.misses(1, 256, 1), UNKNOWN);
        due(k.misses(4, 0, 0), UNKNOWN);
        due(k.table(1, true), 1);
        due(k.misses(1, 0, 0), 0);
        due(k.misses(1, 0, 1), STATE);
    }

    private static void twices() {
        begin("20 twice");
        Integer[][] rows = {row(1, 1), row(1, 2), row(1, 1), row(null, 1), row(null, 1), row(1, 1)};
        Finder k = with(true, rows);
        due(k.twice(0, 3, 0), 3);
        due(k.twice(0, 1, 2), 3);
        due(k.twice(0, 1, 0), 4);
        due(k.twice(0, 0, 1), 4);
        due(k.twice(0, 0, 0), 5);
        k = with(false, rows);
        due(k.twice(0, 1, 2), 2);
        due(k.twice(0, 1, 0), 3);
        due(k.twice(0, 0, 0), 5);
        due(k.twice(0, 4, 0), STATE);
        due(k.twice(0, 0, 4), STATE);
        due(k.twice(0, -1, 0), OUTSIDE);
        due(k.twice(0, 0, 256), OUTSIDE);
        due(k.twice(2, 0, 256), UNKNOWN);
    }

    private static void widths() {
        begin("21 width");
        Finder k = new Finder();
        due(k.part(1), 1);
        for (int n : new int[] {0, 9, -1, MIN, MAX}) {
            due(k.width(n), OUTSIDE);
        }
        due(k.told(3), 1);
        due(k.width(8), 4);
        due(k.told(3), 0);
        due(k.told(5), 8);
        due(k.part(128), 1);
        due(k.width(8), 8);
        due(k.told(3), 0);
        due(k.width(1), 8);
        due(k.closure(1), 1);
        due(k.closure(2), OUTSIDE);
        due(k.width(3), 1);
        due(k.closure(7), 7);
        // A KEY's Y grows with ALL, and laws are cut to it.
        due(k.law(1, 1, 0), 0);
        due(k.law(0, 10, 20), 1);
        due(k.closure(1), 7);
        due(k.closure(2), 6);
        due(k.width(5), 3);
        due(k.closure(1), 31);
        due(k.closure(2), 2);
        due(k.closure(10), 30);
    }

    private static void closures() {
        begin("22 closure");
        Finder k = telling(5, 1, 2, 6, 8, 2, 4, 0, 16);
        due(k.closure(0), 16);
        due(k.closure(1), 31);
        due(k.closure(2), 30);
        due(k.closure(4), 20);
        due(k.closure(31), 31);
        due(k.closure(32), OUTSIDE);
        due(k.closure(-1), OUTSIDE);
        due(k.closure(MIN), OUTSIDE);
        // Only KINDS 0 and 1 are in force.
        due(k.law(2, 8, 4), 4);
        due(k.law(4, 8, 4), 5);
        due(k.law(3, 8, 4), 6);
        due(k.law(5, 8, 2), 7);
        due(k.closure(8), 24);
        due(k.law(1, 8, 0), 8);
        due(k.closure(8), 31);
    }

    private static void followings() {
        begin("23, 24 follows, step");
        Finder k = telling(6, 4, 8, 2, 4, 1, 2, 8, 16, 1, 32);
        due(k.step(0), NONE);
        due(k.follows(1, 16), 1);
        // Always the least law that tells more: 2 (to 1), 1 (to 2), 0 (to 3), 3.
        int[] steps = {2, 1, 0, 3};
        due(k.told(4), 4);
        for (int i = 0; i < 4; i++) {
            due(k.step(i), steps[i]);
        }
        due(k.step(4), NONE);
        due(k.step(-1), NONE);
        due(k.step(MAX), NONE);
        // Others leave the STEPS.
        due(k.follows(16, 1), 0);
        due(k.told(4), 4);
        due(k.follows(64, 1), OUTSIDE);
        due(k.follows(1, 64), OUTSIDE);
        due(k.follows(-1, 1), OUTSIDE);
        due(k.told(4), 4);
        due(k.follows(1, 32), 1);
        // Law 4 comes behind all of lower numbers that have more to tell.
        due(k.told(4), 5);
        due(k.step(4), 4);
        due(k.follows(1, 2), 1);
        due(k.told(4), 1);
        due(k.step(0), 2);
        due(k.unlaw(2), 1);
        due(k.step(0), 2);
        due(k.follows(3, 1), 1);
        due(k.told(4), 0);
        due(k.step(0), NONE);
        due(k.follows(0, 0), 1);
        // As many STEPS as there can be: each law brings one column of eight, the last told first.
        k = telling(8, 64, 128, 32, 64, 16, 32, 8, 16, 4, 8, 2, 4, 1, 2, 0, 1, 0, 128);
        due(k.closure(0), 255);
        due(k.unlaw(8), 1);
        due(k.closure(0), 255);
        due(k.follows(0, 128), 1);
        due(k.told(4), 8);
        due(k.step(0), 7);
        due(k.step(7), 0);
        due(k.law(0, 0, 128), 9);
        // No law needs its X, and of the two that tell 7 the earlier one goes.
        due(k.cover(), 8);
        cover(k, 0, 6, 0, 5, 0, 4, 0, 3, 0, 2, 0, 1, 0, 0, 0, 7);
        // 0 to 7 follows only by all the others, the last of them first.
        k = telling(8, 1, 128, 64, 128, 32, 64, 16, 32, 8, 16, 4, 8, 2, 4, 1, 2);
        due(k.cover(), 7);
        cover(k, 64, 7, 32, 6, 16, 5, 8, 4, 4, 3, 2, 2, 1, 1);
    }

    private static void keysOf() {
        begin("25, 26 keys, key");
        Finder k = new Finder();
        due(k.keys(), 1);
        due(k.key(0), 15);
        due(k.key(1), NONE);
        due(k.key(-1), NONE);
        k = telling(5, 1, 2, 6, 8, 8, 4, 16, 1);
        // 4 tells 0 and so 1; then 2 or 3 is wanted.
        due(k.keys(), 2);
        due(k.key(0), 20);
        due(k.key(1), 24);
        due(k.key(2), NONE);
        due(k.law(1, 2, 0), 4);
        due(k.key(0), 1);
        due(k.key(1), 2);
        due(k.key(2), 16);
        due(k.keys(), 3);
        due(k.law(0, 0, 31), 5);
        due(k.keys(), 1);
        due(k.key(0), 0);
        // As many as there can be: any four of eight.
        k = new Finder();
        due(k.width(8), 4);
        int law = 0;
        for (int x = 0; x < 256 && law < 40; x++) {
            if (Integer.bitCount(x) == 4) {
                due(k.law(1, x, 0), law);
                law++;
            }
        }
        int keys = k.keys();
        due(k.key(keys), NONE);
        for (int i = 1; i < keys; i++) {
            due(k.key(i - 1) < k.key(i) ? 1 : 0, 1);
        }
        for (int i = 0; i < 40; i++) {
            due(Integer.bitCount(k.key(i)) == 4 || Integer.bitCount(k.key(i)) == 5 ? 1 : 0, 1);
        }
    }

    private static void primes() {
        begin("27 prime");
        Finder k = new Finder();
        due(k.prime(), 15);
        k = telling(5, 1, 2, 6, 8, 8, 4, 16, 1);
        due(k.prime(), 28);
        due(k.law(0, 0, 31), 4);
        due(k.prime(), 0);
    }

    private static void covers() {
        begin("28, 29 cover, covered");
        Finder k = new Finder();
        due(k.cover(), 0);
        due(k.covered(0, 0), UNKNOWN);
        // 0,1 to 2 is cut to 0 to 2, as 0 tells 1; then 0 to 2 follows from 0 to 1 and 1 to 2.
        k = telling(4, 3, 4, 1, 2, 2, 4, 1, 9);
        due(k.cover(), 3);
        cover(k, 1, 1, 2, 2, 1, 3);
        due(k.covered(3, 0), UNKNOWN);
        due(k.covered(3, 2), UNKNOWN);
        due(k.covered(-1, 0), UNKNOWN);
        due(k.covered(0, 2), OUTSIDE);
        due(k.covered(0, -1), OUTSIDE);
        // Of like laws the later one stays, where it stands.
        k = telling(4, 1, 2, 4, 8, 1, 2);
        due(k.cover(), 2);
        cover(k, 4, 3, 1, 1);
        // A KEY tells all that is not in it.
        k = new Finder();
        due(k.law(1, 2, 0), 0);
        due(k.cover(), 3);
        cover(k, 2, 0, 2, 2, 2, 3);
        due(k.unlaw(0), 1);
        due(k.cover(), 0);
        // The lower column is left out first where either could be.
        k = telling(3, 1, 2, 2, 1, 3, 4);
        due(k.cover(), 3);
        cover(k, 1, 1, 2, 0, 2, 2);
        due(k.width(2), 3);
        due(k.cover(), 2);
        cover(k, 1, 1, 2, 0);
        // As long a cover as there can be at first: 40 laws with eight columns told.
        k = new Finder();
        due(k.width(8), 4);
        for (int n = 0; n < 40; n++) {
            due(k.law(0, 0, 255), n);
        }
        due(k.cover(), 8);
        cover(k, 0, 0, 0, 1, 0, 2, 0, 3, 0, 4, 0, 5, 0, 6, 0, 7);
        due(k.third(), 1);
        parts(k, 255);
    }

    private static void cover(Finder k, int... pairs) {
        for (int i = 0; i < pairs.length; i += 2) {
            due(k.covered(i / 2, 0), pairs[i]);
            due(k.covered(i / 2, 1), pairs[i + 1]);
        }
    }

    private static void thirds() {
        begin("30 third");
        Finder k = new Finder();
        due(k.third(), 1);
        parts(k, 15);
        // 0,1 and 1,0 are like: the later one goes; the key 0,4 (as 0 and 4 are needed) comes last.
        k = telling(5, 1, 2, 2, 1, 4, 8);
        due(k.third(), 3);
        parts(k, 3, 12, 21);
        due(k.part(1), 4);
        due(k.third(), 3);
        // 2 with 0 is within 0, 1, 2, though it comes first.
        k = telling(3, 4, 1, 3, 4);
        due(k.third(), 1);
        parts(k, 7);
        k = telling(4, 1, 2, 2, 4, 1, 8);
        due(k.third(), 2);
        parts(k, 11, 6);
        k = telling(8, thirteen());
        due(k.part(5), 1);
        due(k.third(), FULL);
        parts(k, 5);
        due(k.unlaw(38), 1);
        due(k.fault(), 0);
    }

    private static int[] thirteen() {
        return new int[] {192, 2, 136, 16, 66, 2, 80, 8, 68, 1, 144, 32, 129, 128, 66, 128, 96, 16, 5, 1, 36, 16, 130, 64,
            18, 2, 66, 8, 9, 4, 192, 16, 33, 128, 34, 1, 68, 4, 66, 2, 72, 2, 17, 16, 80, 32, 65, 4, 65, 16, 36, 4, 36, 4,
            65, 64, 5, 32, 136, 128, 20, 8, 68, 64, 80, 64, 5, 16, 65, 32, 9, 4, 72, 32, 160, 2, 34, 8};
    }

    private static void stricts() {
        begin("31 strict");
        Finder k = new Finder();
        due(k.strict(), 1);
        parts(k, 15);
        k = telling(4, 1, 2, 4, 8);
        due(k.strict(), 3);
        parts(k, 3, 12, 5);
        // The set that tells may be empty.
        k = telling(3, 0, 2);
        due(k.strict(), 2);
        parts(k, 2, 5);
        // A chain is split again in place, ahead of what stands behind.
        k = telling(4, 1, 14, 2, 4, 4, 8);
        due(k.strict(), 3);
        parts(k, 12, 6, 3);
        k = telling(8, 32, 128, 30, 128, 145, 32, 64, 32, 161, 2, 136, 4, 134, 8, 144, 8);
        due(k.part(9), 1);
        due(k.strict(), FULL);
        parts(k, 9);
        k = telling(8, 56, 128, 52, 2, 23, 128, 178, 32, 162, 1, 178, 8, 128, 1, 33, 128, 113, 32, 211, 16, 210, 128, 64,
                32, 155, 32, 237, 32, 9, 8, 32, 16, 232, 16, 69, 4);
        due(k.strict(), 12);
        due(k.told(3), 12);
        due(k.lossless(), 1);
        for (int i = 0; i < 12; i++) {
            due(k.form(k.parted(i)), 3);
        }
    }

    private static void partsByHand() {
        begin("32, 33, 34 part, unpart, parted");
        Finder k = new Finder();
        due(k.unpart(), 0);
        due(k.part(0), OUTSIDE);
        due(k.part(16), OUTSIDE);
        due(k.part(-1), OUTSIDE);
        due(k.parted(0), UNKNOWN);
        for (int n = 1; n <= 12; n++) {
            due(k.part(n), n);
        }
        due(k.part(16), OUTSIDE);
        due(k.part(15), FULL);
        due(k.part(0), OUTSIDE);
        due(k.parted(0), 1);
        due(k.parted(11), 12);
        due(k.parted(12), UNKNOWN);
        due(k.parted(-1), UNKNOWN);
        due(k.unpart(), 12);
        due(k.unpart(), 0);
        due(k.parted(0), UNKNOWN);
        due(k.part(15), 1);
        due(k.parted(0), 15);
    }

    private static void forms() {
        begin("35 form");
        Finder k = telling(4, 3, 4, 4, 1);
        due(k.form(0), OUTSIDE);
        due(k.form(16), OUTSIDE);
        due(k.form(-1), OUTSIDE);
        // 2 tells 0, which is in the keys 0,1 and 1,2 of 0,1,2: third, not strict.
        due(k.form(7), 1);
        due(k.form(3), 3);
        due(k.form(5), 3);
        due(k.form(8), 3);
        due(k.form(15), 1);
        due(k.law(0, 1, 8), 2);
        due(k.form(15), 0);
        due(k.form(9), 3);
        // What follows by way of columns outside the set counts.
        k = telling(4, 1, 2, 2, 4);
        due(k.form(5), 3);
        due(k.form(13), 0);
        k = telling(4, 0, 1);
        due(k.form(1), 3);
        due(k.form(3), 0);
    }

    private static void losslessOnes() {
        begin("36 lossless");
        Finder k = telling(3, 2, 4);
        due(k.lossless(), 0);
        due(k.part(3), 1);
        due(k.lossless(), 0);
        due(k.part(6), 2);
        due(k.lossless(), 1);
        due(k.unlaw(0), 1);
        due(k.lossless(), 0);
        due(k.part(7), 3);
        due(k.lossless(), 1);
        // Signs of their own that become one carry the next law: 0 to 2, 1 to 2 and then 2,3 to 0.
        k = telling(5, 1, 4, 2, 4, 4, 8, 24, 4, 20, 1);
        due(k.part(9), 1);
        due(k.part(3), 2);
        due(k.part(18), 3);
        due(k.part(28), 4);
        due(k.part(17), 5);
        due(k.lossless(), 1);
        k = telling(4, 1, 2);
        due(k.part(3), 1);
        due(k.part(12), 2);
        due(k.lossless(), 0);
        // Without a column in X all rows become one there.
        due(k.law(0, 0, 15), 1);
        due(k.lossless(), 1);
    }

    private static void keeping() {
        begin("37, 38 lack, keeps");
        Finder k = telling(3, 1, 2, 2, 4, 4, 1);
        due(k.lack(), 3);
        due(k.keeps(0), 0);
        due(k.part(3), 1);
        due(k.part(6), 2);
        // 2 to 0 is got by way of 1, of both parts.
        due(k.keeps(0), 1);
        due(k.keeps(1), 1);
        due(k.keeps(2), 1);
        due(k.lack(), 0);
        k = telling(3, 3, 4, 4, 2);
        due(k.part(5), 1);
        due(k.part(6), 2);
        due(k.keeps(0), 0);
        due(k.keeps(1), 1);
        due(k.lack(), 1);
        due(k.law(2, 1, 2), 2);
        due(k.law(0, 7, 1), 3);
        due(k.unlaw(1), 1);
        due(k.keeps(1), STATE);
        due(k.keeps(2), STATE);
        due(k.keeps(3), 1);
        due(k.keeps(4), UNKNOWN);
        due(k.keeps(-1), UNKNOWN);
        due(k.lack(), 1);
        // A KEY is not kept itself, but law 0 is by it: 0 tells 2 within a part.
        due(k.law(1, 1, 0), 4);
        due(k.lack(), 1);
        due(k.keeps(0), 1);
        due(k.keeps(4), 0);
        due(k.unpart(), 2);
        due(k.lack(), 2);
    }

    private static void projects() {
        begin("39 project");
        Integer[][] rows = {row(1, 5, null), row(1, 6, null), row(2, 5, 3), row(1, 7, null), row(2, 8, 3)};
        Finder k = with(true, rows);
        due(k.project(0, 5, 2), 2);
        due(k.about(2, 0), 2);
        due(k.about(2, 2), 1);
        due(k.at(2, 0, 0, 3), 1);
        due(k.at(2, 0, 1, 3), LOST);
        due(k.at(2, 1, 0, 3), 2);
        due(k.at(2, 1, 1, 3), 3);
        due(k.project(0, 2, 2), 4);
        due(k.about(2, 0), 1);
        due(k.at(2, 3, 0, 3), 8);
        due(k.project(0, 7, 3), 5);
        k = with(false, rows);
        due(k.project(0, 5, 1), 4);
        due(k.about(1, 2), 0);
        due(k.about(1, 3), 3);
        due(k.project(0, 4, 1), 4);
        due(k.project(0, 0, 1), STATE);
        due(k.project(0, 8, 1), STATE);
        due(k.project(0, 1, 0), STATE);
        due(k.project(0, 256, 0), OUTSIDE);
        due(k.project(0, -1, 1), OUTSIDE);
        due(k.project(2, 256, 1), UNKNOWN);
        due(k.project(0, 256, 4), UNKNOWN);
        due(k.project(0, 1, -1), UNKNOWN);
        due(k.project(-1, 1, 0), UNKNOWN);
        due(k.about(1, 1), 4);
        // The lanes go along.
        due(k.table(2, true), 1);
        due(k.column(2, 5), 0);
        due(k.column(2, 2), 1);
        due(k.project(2, 2, 3), 0);
        due(k.about(3, 4), 2);
        due(k.about(3, 0), 1);
    }

    private static void joins() {
        begin("40 join");
        Finder k = with(true, new Integer[][] {row(1, 10), row(2, 20), row(3, null)});
        fill(k, 1, false, 3, new Integer[][] {row(10, 7), row(null, 8), row(10, 9)});
        // TABLE 0 has columns 1, 4; TABLE 1 has 4, 6.
        due(k.join(0, 18, 1, 80, 2), 3);
        due(k.about(2, 0), 3);
        due(k.about(2, 2), 1);
        long[][] want = {{1, 10, 7}, {1, 10, 9}, {3, LOST, 8}};
        for (int r = 0; r < 3; r++) {
            for (int c = 0; c < 3; c++) {
                due(k.at(2, r, c, 3), want[r][c]);
            }
        }
        // Missing ones are taken as the first TABLE takes them: here as like none.
        due(k.join(1, 80, 0, 18, 2), 2);
        due(k.about(2, 2), 0);
        due(k.at(2, 0, 0, 3), 1);
        due(k.at(2, 0, 2, 3), 7);
        due(k.at(2, 1, 2, 3), 9);
        // Nothing in common: each with each; a TABLE with itself.
        due(k.join(0, 3, 0, 12, 3), 9);
        due(k.at(3, 1, 0, 3), 1);
        due(k.at(3, 1, 2, 3), 2);
        due(k.join(0, 3, 0, 3, 3), 3);
        due(k.about(3, 0), 2);
        joinRefusals(k);
    }

    private static void joinRefusals(Finder k) {
        due(k.join(0, 7, 1, 3, 2), STATE);
        due(k.join(0, 3, 1, 1, 2), STATE);
        due(k.join(0, 3, 1, 3, 0), STATE);
        due(k.join(0, 3, 1, 3, 1), STATE);
        due(k.join(0, 256, 1, 3, 0), OUTSIDE);
        due(k.join(0, 3, 1, -1, 2), OUTSIDE);
        due(k.join(0, 256, 1, 3, 4), UNKNOWN);
        due(k.join(0, 3, 1, 3, -1), UNKNOWN);
        due(k.drop(3), 1);
        due(k.join(3, 3, 1, 3, 2), UNKNOWN);
        due(k.join(0, 3, 3, 3, 2), UNKNOWN);
        due(k.join(0, 3, 4, 3, 2), UNKNOWN);
        fill(k, 3, true, 4, new Integer[][] {row(1, 2), row(3, 4), row(5, 6), row(7, 8), row(9, 9), row(9, 9), row(1, 1),
            row(1, 1)});
        due(k.join(0, 3, 3, 6, 2), STATE);
        // 24 rows are not too many; 27 are, and leave what was there.
        due(k.join(0, 3, 3, 12, 2), 24);
        due(k.about(2, 4), 3);
        due(k.about(2, 6), 4);
        due(k.at(2, 23, 3, 4), 1);
        due(k.rows(3, 1), 9);
        due(k.join(0, 3, 3, 12, 2), FULL);
        due(k.about(2, 1), 24);
        // TABLES without columns are joined by no column.
        due(k.table(1, true), 1);
        due(k.join(0, 3, 1, 0, 2), 0);
        due(k.rows(1, 2), 2);
        due(k.join(0, 3, 1, 0, 2), 6);
        due(k.join(1, 0, 1, 0, 2), 4);
        due(k.about(2, 0), 0);
    }

    private static void faults() {
        begin("41 fault");
        Finder k = new Finder();
        due(k.fault(), 0);
        due(k.put(0, 0, 0, 0), NULL);
        // Calls that name no FAULT leave it, refused or not.
        due(k.table(0, true), 1);
        due(k.table(9, true), UNKNOWN);
        due(k.column(0, 3), 0);
        due(k.hold(0, 0), UNKNOWN);
        due(k.like(0, 5, 5, 0), UNKNOWN);
        due(k.about(0, 99), OUTSIDE);
        due(k.law(9, 0, 0), OUTSIDE);
        due(k.fault(), 1);
        due(k.fault(), 1);
        due(k.put(9, 0, 0, 0), UNKNOWN);
        due(k.fault(), 0);
        due(k.rows(0, -3), SIZE);
        due(k.fault(), 4);
        due(k.rows(0, 2), 2);
        due(k.fault(), 0);
        due(k.copy(0, 0, 0, 0, 0, 3), INDEX);
        due(k.fault(), 3);
        due(k.copy(0, 0, 0, 1, 0, 3), UNKNOWN);
        due(k.fault(), 0);
        due(k.law(3, 1, 0), 0);
        due(k.say(0, 0, 0), CAST);
        due(k.fault(), 2);
        due(k.miss(0, 0, 0), 0);
        due(k.fault(), 0);
        due(k.miss(0, 2, 0), INDEX);
        due(k.fault(), 3);
        due(k.at(0, 0, 0, 9), LOST);
        due(k.fault(), 0);
        due(k.at(0, 0, 0, 2), LOST);
        due(k.fault(), 2);
        due(k.say(0, 3, 0), 1);
        due(k.fault(), 0);
        due(k.put(0, 0, 1, 4), INDEX);
        due(k.rows(0, 25), OUTSIDE);
        due(k.fault(), 0);
    }

    private static void tolds() {
        begin("42 told");
        Finder k = with(true, new Integer[][] {row(1, 2), row(2, 2)});
        due(k.law(0, 1, 2), 0);
        due(k.law(1, 1, 2), 1);
        due(k.law(2, 1, 2), 2);
        due(k.law(3, 1, 2), 3);
        due(k.law(0, 1, 2), 4);
        due(k.told(0), 5);
        due(k.told(1), 3);
        due(k.unlaw(0), 1);
        due(k.told(0), 5);
        due(k.told(1), 2);
        due(k.unlaw(2), 1);
        due(k.told(1), 2);
        due(k.find(0), 1);
        due(k.told(2), 1);
        due(k.part(1), 1);
        due(k.part(2), 2);
        due(k.told(3), 2);
        due(k.follows(1, 2), 1);
        due(k.told(4), 1);
        due(k.width(6), 4);
        due(k.told(5), 6);
        due(k.told(4), 1);
        due(k.told(6), OUTSIDE);
        due(k.told(-1), OUTSIDE);
        due(k.told(MIN), OUTSIDE);
    }
}
