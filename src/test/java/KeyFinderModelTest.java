import java.util.ArrayList;
import java.util.List;
import java.util.Random;
import java.util.TreeSet;

/**
 * Runs of calls drawn from fixed seeds, each answer held against a slow second reading of the
 * document that shares no code with the class and takes every definition to the letter.
 */
public final class KeyFinderModelTest {
    private static final int CALLS = 512;
    private static int wrong = 0;

    public static void main(String[] args) {
        int runs = args.length > 0 ? Integer.parseInt(args[0]) : 400;
        for (int run = 0; run < runs && wrong == 0; run++) {
            new Run(run).go();
        }
        System.out.println(wrong == 0 ? "model: " + runs + " runs agree" : "model: " + wrong + " answers differ");
        if (wrong != 0) {
            System.exit(1);
        }
    }

    /** One run: what is drawn leans to tables, to few laws or to many laws of several columns, by its number. */
    private static final class Run {
        final int number;
        final Random random;
        final KeyFinder real = new KeyFinder();
        final Model model = new Model();
        final List<String> history = new ArrayList<>();
        final boolean many;
        final int values;
        final int lanes;

        Run(int number) {
            this.number = number;
            this.random = new Random(1000003L * number + 17);
            this.many = number % 3 == 2;
            this.values = 1 + random.nextInt(4);
            this.lanes = 1 + random.nextInt(6);
        }

        void go() {
            boolean tables = number % 3 == 0;
            if (tables) {
                fillTables();
            }
            // A hold() is followed by a broken().
            while (history.size() < CALLS - 1 && wrong == 0) {
                int dice = random.nextInt(100);
                if (dice < (tables ? 55 : 10)) {
                    tableCall();
                } else if (dice < (tables ? 85 : 20)) {
                    lawCall();
                } else if (dice < (tables ? 90 : 85)) {
                    theoryCall();
                } else {
                    toldCall();
                }
            }
        }

        void due(String call, long got, long want) {
            history.add(call + " = " + got);
            if (got != want && wrong == 0) {
                wrong++;
                System.out.println("run " + number + ": " + call + " answered " + got + ", due is " + want);
                for (String line : history) {
                    System.out.println("    " + line);
                }
            }
        }

        int below(int n) {
            return random.nextInt(n);
        }

        boolean odd(int n) {
            return random.nextInt(n) == 0;
        }

        int wild(int n) {
            if (odd(25)) {
                int[] wilds = {-1, n, n + 1, Integer.MIN_VALUE, Integer.MAX_VALUE, -2};
                return wilds[below(wilds.length)];
            }
            return below(n);
        }

        int tableNumber() {
            return odd(8) ? wild(4) : odd(3) ? below(4) : below(2);
        }

        int setOf(int columns) {
            if (odd(40)) {
                return wild(256);
            }
            int all = (1 << Math.min(8, Math.max(0, columns))) - 1;
            int set = below(256) & all;
            return odd(3) ? set & below(256) : set;
        }

        int columnsOf(int t) {
            MTable m = model.tableAt(t);
            return m == null ? 4 : m.lanes.size();
        }

        int rowsOf(int t) {
            MTable m = model.tableAt(t);
            return m == null ? 4 : m.rows.size();
        }

        long value() {
            switch (below(12)) {
                case 0:
                    return Double.doubleToLongBits(below(3) - 1.0);
                case 1:
                    return odd(2) ? Long.MIN_VALUE : 0x7ff8000000000000L + below(3);
                case 2:
                    return odd(2) ? 0xfff0000000000000L : 0x7ff0000000000000L;
                case 3:
                    return random.nextLong();
                case 4:
                    return below(values) + 65536L * below(2) + (256L << 24) * below(2);
                case 5:
                    return -1 - below(values);
                default:
                    return below(values);
            }
        }

        void fillTables() {
            for (int t = 0; t < 2; t++) {
                boolean areLike = odd(2);
                due("table(" + t + "," + areLike + ")", real.table(t, areLike), model.table(t, areLike));
                int columns = 1 + below(6);
                for (int c = 0; c < columns; c++) {
                    int lane = below(lanes);
                    due("column(" + t + "," + lane + ")", real.column(t, lane), model.column(t, lane));
                }
                int rows = below(9);
                due("rows(" + t + "," + rows + ")", real.rows(t, rows), model.rows(t, rows));
                for (int row = 0; row < rows; row++) {
                    for (int c = 0; c < columns; c++) {
                        if (!odd(7)) {
                            put(t, row, c);
                        }
                    }
                }
            }
        }

        void put(int t, int row, int c) {
            long v = odd(2) ? below(values) : value();
            due("put(" + t + "," + row + "," + c + "," + v + ")", real.put(t, row, c, v), model.put(t, row, c, v));
        }

        void tableCall() {
            int t = tableNumber();
            int r = wild(Math.max(1, rowsOf(t)));
            int r2 = wild(Math.max(1, rowsOf(t)));
            int c = wild(Math.max(1, columnsOf(t)));
            int c2 = wild(Math.max(1, columnsOf(t)));
            int set = setOf(columnsOf(t));
            int lane = wild(6);
            switch (below(28)) {
                case 0:
                    if (odd(4)) {
                        boolean areLike = odd(2);
                        due("table(" + t + "," + areLike + ")", real.table(t, areLike), model.table(t, areLike));
                    }
                    break;
                case 1:
                    if (odd(8)) {
                        due("drop(" + t + ")", real.drop(t), model.drop(t));
                    }
                    break;
                case 2:
                case 3:
                    due("column(" + t + "," + lane + ")", real.column(t, lane), model.column(t, lane));
                    break;
                case 4: {
                    int n = odd(6) ? wild(25) : below(3);
                    due("rows(" + t + "," + n + ")", real.rows(t, n), model.rows(t, n));
                    break;
                }
                case 5:
                case 6:
                case 7:
                case 8:
                case 9:
                case 10:
                    put(t, r, c);
                    break;
                case 11:
                    due("miss(" + t + "," + r + "," + c + ")", real.miss(t, r, c), model.miss(t, r, c));
                    break;
                case 12:
                case 13: {
                    MTable m = model.tableAt(t);
                    int as = m != null && c >= 0 && c < m.lanes.size() && !odd(4) ? m.lanes.get(c) : lane;
                    due("at(" + t + "," + r + "," + c + "," + as + ")", real.at(t, r, c, as), model.at(t, r, c, as));
                    break;
                }
                case 14:
                case 15: {
                    int n = odd(10) ? wild(25) : below(4);
                    due("copy(" + t + "," + c + "," + r + "," + c2 + "," + r2 + "," + n + ")",
                            real.copy(t, c, r, c2, r2, n), model.copy(t, c, r, c2, r2, n));
                    break;
                }
                case 16: {
                    int what = wild(4 + columnsOf(t) + 1);
                    due("about(" + t + "," + what + ")", real.about(t, what), model.about(t, what));
                    break;
                }
                case 17:
                case 18:
                    due("like(" + t + "," + r + "," + r2 + "," + set + ")",
                            real.like(t, r, r2, set), model.like(t, r, r2, set));
                    break;
                case 19:
                case 20: {
                    int u = odd(3) ? wild(4) : 2 + below(2);
                    due("project(" + t + "," + set + "," + u + ")", real.project(t, set, u), model.project(t, set, u));
                    break;
                }
                case 21:
                case 22:
                    joinCall(t);
                    break;
                case 23:
                    due("find(" + t + ")", real.find(t), model.find(t));
                    break;
                case 24:
                    due("misses(" + t + "," + set + ")", real.misses(t, set, setAgain(t)), model.misses(t, set, again));
                    break;
                case 25:
                    due("twice(" + t + "," + set + ")", real.twice(t, set, setAgain(t)), model.twice(t, set, again));
                    break;
                default: {
                    int i = wild(Math.max(1, model.found.size()));
                    int what = wild(2);
                    due("found(" + i + "," + what + ")", real.found(i, what), model.found(i, what));
                    break;
                }
            }
        }

        int again;

        int setAgain(int t) {
            again = setOf(columnsOf(t));
            return again;
        }

        int setOfSize(int n) {
            for (int tries = 0; tries < 200; tries++) {
                int set = below(256);
                if (Integer.bitCount(set) == n) {
                    return set;
                }
            }
            return 0;
        }

        void joinCall(int t) {
            int u = tableNumber();
            int w = odd(4) ? wild(4) : 2 + below(2);
            int x = odd(8) ? wild(256) : setOfSize(columnsOf(t));
            int y = odd(8) ? wild(256) : setOfSize(columnsOf(u));
            due("join(" + t + "," + x + "," + u + "," + y + "," + w + ")",
                    real.join(t, x, u, y, w), model.join(t, x, u, y, w));
        }

        void lawCall() {
            int law = wild(Math.max(1, model.laws.size()));
            switch (below(8)) {
                case 0: {
                    int kind = wild(6);
                    int columns = Math.min(4, 1 + below(8));
                    int x = kind == 4 && !odd(6) ? 1 << below(columns) : setOf(columns);
                    int y = kind == 4 && !odd(6) ? 1 << below(columns) : kind == 5 ? wild(4) : setOf(columns);
                    due("law(" + kind + "," + x + "," + y + ")", real.law(kind, x, y), model.law(kind, x, y));
                    break;
                }
                case 1:
                    if (odd(5)) {
                        due("unlaw(" + law + ")", real.unlaw(law), model.unlaw(law));
                    }
                    break;
                case 2: {
                    int as = wild(6);
                    int what = model.hasOpenY(law) ? 2 * below(2) : wild(3);
                    due("say(" + law + "," + as + "," + what + ")", real.say(law, as, what), model.say(law, as, what));
                    break;
                }
                default: {
                    int t = tableNumber();
                    due("hold(" + t + "," + law + ")", real.hold(t, law), model.hold(t, law));
                    int what = wild(2);
                    due("broken(" + what + ")", real.broken(what), model.broken(what));
                    break;
                }
            }
        }

        void theoryCall() {
            int set = setOf(model.width);
            int set2 = setOf(model.width);
            switch (below(22)) {
                case 0:
                    if (odd(4)) {
                        int n = odd(6) ? wild(9) : many ? 8 : 4 + below(5);
                        due("width(" + n + ")", real.width(n), model.width(n));
                    }
                    break;
                case 1:
                case 2:
                    if (many || odd(3)) {
                        int kind = odd(many ? 40 : 5) ? 1 : odd(12) ? wild(6) : 0;
                        int x = many ? setOfSize(2 + below(3)) : setOf(8) & setOf(8);
                        int y = many ? setOfSize(1) : setOf(8) & setOf(8);
                        due("law(" + kind + "," + x + "," + y + ")", real.law(kind, x, y), model.law(kind, x, y));
                    }
                    break;
                case 3:
                    if (odd(many ? 12 : 3)) {
                        int law = wild(Math.max(1, model.laws.size()));
                        due("unlaw(" + law + ")", real.unlaw(law), model.unlaw(law));
                    }
                    break;
                case 4:
                    due("closure(" + set + ")", real.closure(set), model.closure(set));
                    break;
                case 5:
                case 6:
                    due("follows(" + set + "," + set2 + ")", real.follows(set, set2), model.follows(set, set2));
                    break;
                case 7: {
                    int i = wild(Math.max(1, model.steps.size()));
                    due("step(" + i + ")", real.step(i), model.step(i));
                    break;
                }
                case 8:
                    due("keys()", real.keys(), model.keySets().size());
                    break;
                case 9: {
                    int i = wild(Math.max(1, model.keySets().size()));
                    due("key(" + i + ")", real.key(i), model.key(i));
                    break;
                }
                case 10:
                    due("prime()", real.prime(), model.prime());
                    break;
                case 11:
                    due("cover()", real.cover(), model.coverLaws().size());
                    break;
                case 12: {
                    int i = wild(Math.max(1, model.coverLaws().size()));
                    int what = wild(2);
                    due("covered(" + i + "," + what + ")", real.covered(i, what), model.covered(i, what));
                    break;
                }
                case 13:
                    if (many && !odd(4)) {
                        due("part(" + set + ")", real.part(set), model.part(set));
                        break;
                    }
                    due("third()", real.third(), model.third());
                    break;
                case 14:
                    if (many && !odd(4)) {
                        due("part(" + set + ")", real.part(set), model.part(set));
                        break;
                    }
                    due("strict()", real.strict(), model.strict());
                    break;
                case 15:
                    due("part(" + set + ")", real.part(set), model.part(set));
                    break;
                case 16:
                    if (odd(many ? 12 : 2)) {
                        due("unpart()", real.unpart(), model.unpart());
                    }
                    break;
                case 17: {
                    int i = wild(Math.max(1, model.parts.size()));
                    due("parted(" + i + ")", real.parted(i), model.parted(i));
                    break;
                }
                case 18:
                    due("form(" + set + ")", real.form(set), model.form(set));
                    break;
                case 19:
                    due("lossless()", real.lossless(), model.lossless());
                    break;
                case 20:
                    due("lack()", real.lack(), model.lack());
                    break;
                default: {
                    int law = wild(Math.max(1, model.laws.size()));
                    due("keeps(" + law + ")", real.keeps(law), model.keeps(law));
                    break;
                }
            }
        }

        void toldCall() {
            if (odd(2)) {
                due("fault()", real.fault(), model.fault);
            } else {
                int what = wild(6);
                due("told(" + what + ")", real.told(what), model.told(what));
            }
        }
    }

    private static final class MTable {
        final boolean areLike;
        final List<Integer> lanes = new ArrayList<>();
        final List<Object[]> rows = new ArrayList<>();

        MTable(boolean areLike) {
            this.areLike = areLike;
        }

        static boolean cells(Object a, Object b, boolean areLike) {
            if (a == null || b == null) {
                return a == null && b == null && areLike;
            }
            return a.equals(b);
        }

        boolean like(int i, int j, int set) {
            for (int c = 0; c < lanes.size(); c++) {
                if ((set & 1 << c) != 0 && !cells(rows.get(i)[c], rows.get(j)[c], areLike)) {
                    return false;
                }
            }
            return true;
        }

        boolean lacks(int i, int set) {
            for (int c = 0; c < lanes.size(); c++) {
                if ((set & 1 << c) != 0 && rows.get(i)[c] == null) {
                    return true;
                }
            }
            return false;
        }

        int all() {
            return (1 << lanes.size()) - 1;
        }

        boolean has(int set) {
            return (set & ~all()) == 0;
        }
    }

    private static final class MLaw {
        int kind, x, y;
        boolean dropped;
    }

    /** The document, read once more. Cells are boxed: Byte, Short, Character, Integer, Long, Double. */
    private static final class Model {
        final MTable[] tables = new MTable[4];
        final List<MLaw> laws = new ArrayList<>();
        List<int[]> found = new ArrayList<>();
        List<Integer> steps = new ArrayList<>();
        List<Integer> parts = new ArrayList<>();
        int width = 4;
        int fault = 0;
        int brokenI = -9, brokenJ = -9;

        MTable tableAt(int t) {
            return t < 0 || t > 3 ? null : tables[t];
        }

        int fail(int f) {
            fault = f;
            return -10 - f;
        }

        int table(int t, boolean areLike) {
            if (t < 0 || t > 3) {
                return -1;
            }
            tables[t] = new MTable(areLike);
            return 1;
        }

        int drop(int t) {
            if (t < 0 || t > 3) {
                return -1;
            }
            int was = tables[t] == null ? 0 : 1;
            tables[t] = null;
            return was;
        }

        int column(int t, int lane) {
            MTable m = tableAt(t);
            if (m == null) {
                return -1;
            }
            if (lane < 0 || lane > 5) {
                return -2;
            }
            if (!m.rows.isEmpty()) {
                return -3;
            }
            if (m.lanes.size() == 8) {
                return -4;
            }
            m.lanes.add(lane);
            return m.lanes.size() - 1;
        }

        int rows(int t, int n) {
            fault = 0;
            MTable m = tableAt(t);
            if (m == null) {
                return -1;
            }
            if (n > 24) {
                return -2;
            }
            if (n < 0) {
                return fail(4);
            }
            if (m.rows.size() + n > 24) {
                return -4;
            }
            for (int k = 0; k < n; k++) {
                m.rows.add(new Object[m.lanes.size()]);
            }
            return m.rows.size();
        }

        static Object box(int lane, long v) {
            switch (lane) {
                case 0:
                    return (byte) v;
                case 1:
                    return (short) v;
                case 2:
                    return (char) v;
                case 3:
                    return (int) v;
                case 4:
                    return v;
                default: {
                    double d = Double.longBitsToDouble(v);
                    return d == 0 ? 0.0 : Double.isNaN(d) ? Double.NaN : d;
                }
            }
        }

        static long unbox(Object o) {
            if (o instanceof Character) {
                return (Character) o;
            }
            if (o instanceof Double) {
                return Double.doubleToLongBits((Double) o);
            }
            return ((Number) o).longValue();
        }

        static int order(Object a, Object b) {
            if (a instanceof Double) {
                return Double.compare((Double) a, (Double) b);
            }
            return Long.compare(unbox(a), unbox(b));
        }

        int cellFault(int t, int row, int column) {
            if (tables[t] == null) {
                return 1;
            }
            if (column < 0 || column >= tables[t].lanes.size()) {
                return 3;
            }
            return row < 0 || row >= tables[t].rows.size() ? 3 : 0;
        }

        int put(int t, int row, int column, long v) {
            fault = 0;
            if (t < 0 || t > 3) {
                return -1;
            }
            int f = cellFault(t, row, column);
            if (f != 0) {
                return fail(f);
            }
            tables[t].rows.get(row)[column] = box(tables[t].lanes.get(column), v);
            return 1;
        }

        int miss(int t, int row, int column) {
            fault = 0;
            if (t < 0 || t > 3) {
                return -1;
            }
            int f = cellFault(t, row, column);
            if (f != 0) {
                return fail(f);
            }
            int was = tables[t].rows.get(row)[column] == null ? 0 : 1;
            tables[t].rows.get(row)[column] = null;
            return was;
        }

        long at(int t, int row, int column, int lane) {
            fault = 0;
            if (t < 0 || t > 3 || lane < 0 || lane > 5) {
                return Long.MIN_VALUE;
            }
            MTable m = tables[t];
            if (m == null) {
                fault = 1;
            } else if (column < 0 || column >= m.lanes.size()) {
                fault = 3;
            } else if (m.lanes.get(column) != lane) {
                fault = 2;
            } else if (row < 0 || row >= m.rows.size()) {
                fault = 3;
            }
            if (fault != 0 || m.rows.get(row)[column] == null) {
                return Long.MIN_VALUE;
            }
            return unbox(m.rows.get(row)[column]);
        }

        int copy(int t, int from, int i, int to, int j, int n) {
            fault = 0;
            MTable m = tableAt(t);
            if (m == null || from < 0 || from >= m.lanes.size() || to < 0 || to >= m.lanes.size()) {
                return -1;
            }
            if (!m.lanes.get(from).equals(m.lanes.get(to))) {
                return -3;
            }
            if (i < 0 || j < 0 || n < 0 || (long) i + n > m.rows.size() || (long) j + n > m.rows.size()) {
                return fail(3);
            }
            Object[] kept = new Object[n];
            for (int k = 0; k < n; k++) {
                kept[k] = m.rows.get(i + k)[from];
            }
            for (int k = 0; k < n; k++) {
                m.rows.get(j + k)[to] = kept[k];
            }
            return n;
        }

        int about(int t, int what) {
            MTable m = tableAt(t);
            if (m == null) {
                return -1;
            }
            if (what == 0) {
                return m.lanes.size();
            }
            if (what == 1) {
                return m.rows.size();
            }
            if (what == 2) {
                return m.areLike ? 1 : 0;
            }
            if (what == 3) {
                int n = 0;
                for (Object[] row : m.rows) {
                    for (Object cell : row) {
                        n += cell == null ? 1 : 0;
                    }
                }
                return n;
            }
            return what >= 4 && what - 4 < m.lanes.size() ? m.lanes.get(what - 4) : -2;
        }

        int like(int t, int i, int j, int set) {
            MTable m = tableAt(t);
            if (m == null || i < 0 || j < 0 || i >= m.rows.size() || j >= m.rows.size()) {
                return -1;
            }
            if (set < 0 || set > 255) {
                return -2;
            }
            return m.like(i, j, set) ? 1 : 0;
        }

        int law(int kind, int x, int y) {
            if (kind < 0 || kind > 5 || x < 0 || x > 255) {
                return -2;
            }
            if (kind != 1 && kind != 3 && (y < 0 || y > 255)) {
                return -2;
            }
            if (kind == 4 && (Integer.bitCount(x) != 1 || Integer.bitCount(y) != 1)) {
                return -2;
            }
            if (kind == 5 && y > 3) {
                return -2;
            }
            if (laws.size() == 40) {
                return -4;
            }
            MLaw law = new MLaw();
            law.kind = kind;
            law.x = x;
            law.y = kind == 1 || kind == 3 ? 0 : y;
            laws.add(law);
            return laws.size() - 1;
        }

        boolean noLaw(int law) {
            return law < 0 || law >= laws.size();
        }

        /** What the Y of a KEY and of a NEVER is told as, the document leaves open. */
        boolean hasOpenY(int law) {
            return !noLaw(law) && (laws.get(law).kind == 1 || laws.get(law).kind == 3);
        }

        int unlaw(int law) {
            if (noLaw(law)) {
                return -1;
            }
            int was = laws.get(law).dropped ? 0 : 1;
            laws.get(law).dropped = true;
            return was;
        }

        int say(int law, int as, int what) {
            fault = 0;
            if (noLaw(law)) {
                return -1;
            }
            if (as < 0 || as > 5 || what < 0 || what > 2) {
                return -2;
            }
            MLaw l = laws.get(law);
            boolean fits = as == l.kind || as == 0 && l.kind != 3 && l.kind != 5;
            if (!fits) {
                return fail(2);
            }
            return what == 0 ? l.x : what == 1 ? l.y : l.dropped ? 1 : 0;
        }

        int hold(int t, int law) {
            MTable m = tableAt(t);
            if (m == null || noLaw(law)) {
                return -1;
            }
            MLaw l = laws.get(law);
            if (l.dropped || !m.has(l.x)) {
                return -3;
            }
            if ((l.kind == 0 || l.kind == 2 || l.kind == 4) && !m.has(l.y)) {
                return -3;
            }
            if (l.kind == 5 && (tables[l.y] == null || !tables[l.y].has(l.x))) {
                return -3;
            }
            brokenI = -9;
            brokenJ = -9;
            int n = m.rows.size();
            for (int i = 0; i < n; i++) {
                if (l.kind == 3 || l.kind == 5) {
                    if (l.kind == 3 ? m.lacks(i, l.x) : !m.lacks(i, l.x) && !within(m, i, tables[l.y], l.x)) {
                        brokenI = i;
                        return 0;
                    }
                    continue;
                }
                for (int j = l.kind < 2 ? i + 1 : 0; j < n; j++) {
                    if (!fits(m, l, i, j)) {
                        brokenI = i;
                        brokenJ = j;
                        return 0;
                    }
                }
            }
            return 1;
        }

        boolean within(MTable m, int i, MTable other, int x) {
            for (int k = 0; k < other.rows.size(); k++) {
                boolean same = true;
                for (int c = 0; c < 8; c++) {
                    if ((x & 1 << c) != 0) {
                        // Boxes of unlike lanes are never equal.
                        same &= m.rows.get(i)[c].equals(other.rows.get(k)[c]);
                    }
                }
                if (same) {
                    return true;
                }
            }
            return false;
        }

        boolean fits(MTable m, MLaw l, int i, int j) {
            if (l.kind == 0) {
                return !m.like(i, j, l.x) || m.like(i, j, l.y);
            }
            if (l.kind == 1) {
                return !m.like(i, j, l.x) || m.like(i, j, 255);
            }
            if (l.kind == 2) {
                if (i == j || !m.like(i, j, l.x)) {
                    return true;
                }
                for (int k = 0; k < m.rows.size(); k++) {
                    boolean toI = m.like(k, i, l.x) && m.like(k, i, l.y);
                    boolean toJ = m.like(k, j, l.x) && m.like(k, j, m.all() - (m.all() & (l.x | l.y)));
                    if (toI && toJ) {
                        return true;
                    }
                }
                return false;
            }
            int x = Integer.numberOfTrailingZeros(l.x);
            int y = Integer.numberOfTrailingZeros(l.y);
            if (m.lacks(i, l.x | l.y) || m.lacks(j, l.x | l.y)) {
                return true;
            }
            boolean behindX = order(m.rows.get(i)[x], m.rows.get(j)[x]) > 0;
            boolean behindY = order(m.rows.get(i)[y], m.rows.get(j)[y]) > 0;
            return behindX || !behindY;
        }

        int broken(int what) {
            return what == 0 ? brokenI : what == 1 ? brokenJ : -2;
        }

        boolean tells(MTable m, int x, int c) {
            for (int i = 0; i < m.rows.size(); i++) {
                for (int j = i + 1; j < m.rows.size(); j++) {
                    if (m.like(i, j, x) && !m.like(i, j, 1 << c)) {
                        return false;
                    }
                }
            }
            return true;
        }

        int find(int t) {
            MTable m = tableAt(t);
            if (m == null) {
                return -1;
            }
            found = new ArrayList<>();
            for (int c = 0; c < m.lanes.size(); c++) {
                boolean[] holds = new boolean[256];
                for (int x = 0; x <= m.all(); x++) {
                    if ((x & 1 << c) != 0) {
                        continue;
                    }
                    holds[x] = tells(m, x, c);
                    boolean less = false;
                    for (int s = 0; s < x; s++) {
                        less |= (s & ~x) == 0 && holds[s];
                    }
                    if (holds[x] && !less) {
                        found.add(new int[] {x, c});
                    }
                }
            }
            return found.size();
        }

        int found(int i, int what) {
            if (i < 0 || i >= found.size()) {
                return -1;
            }
            return what < 0 || what > 1 ? -2 : found.get(i)[what];
        }

        int setsRefusal(int t, int x, int y) {
            MTable m = tableAt(t);
            if (m == null) {
                return -1;
            }
            if (x < 0 || y < 0 || x > 255 || y > 255) {
                return -2;
            }
            return m.has(x) && m.has(y) ? 0 : -3;
        }

        int misses(int t, int x, int y) {
            int refusal = setsRefusal(t, x, y);
            if (refusal != 0) {
                return refusal;
            }
            MTable m = tables[t];
            int n = m.rows.size();
            // Rows fall into blocks by X, those into blocks by Y; a row is always in its own block.
            int out = 0;
            boolean[] seen = new boolean[n];
            for (int i = 0; i < n; i++) {
                if (seen[i]) {
                    continue;
                }
                List<Integer> block = new ArrayList<>();
                for (int j = i; j < n; j++) {
                    if (j == i || m.like(i, j, x)) {
                        block.add(j);
                        seen[j] = true;
                    }
                }
                int best = 0;
                for (int a : block) {
                    int size = 0;
                    for (int b : block) {
                        size += a == b || m.like(a, b, y) ? 1 : 0;
                    }
                    best = Math.max(best, size);
                }
                out += block.size() - best;
            }
            return out;
        }

        int twice(int t, int x, int y) {
            int refusal = setsRefusal(t, x, y);
            if (refusal != 0) {
                return refusal;
            }
            MTable m = tables[t];
            int count = 0;
            for (int i = 0; i < m.rows.size(); i++) {
                boolean elder = false;
                for (int j = 0; j < i; j++) {
                    elder |= m.like(i, j, x) && m.like(i, j, y);
                }
                count += elder ? 1 : 0;
            }
            return count;
        }

        int all() {
            return (1 << width) - 1;
        }

        boolean inForce(int law) {
            return !laws.get(law).dropped && laws.get(law).kind < 2;
        }

        int x(int law) {
            return laws.get(law).x & all();
        }

        int y(int law) {
            return laws.get(law).kind == 1 ? all() : laws.get(law).y & all();
        }

        int width(int n) {
            if (n < 1 || n > 8) {
                return -2;
            }
            int was = width;
            width = n;
            parts = new ArrayList<>();
            return was;
        }

        int close(int set, int till, List<Integer> taken) {
            boolean more = true;
            while (more && (till < 0 || (till & ~set) != 0)) {
                more = false;
                for (int law = 0; law < laws.size(); law++) {
                    if (inForce(law) && (x(law) & ~set) == 0 && (y(law) & ~set) != 0) {
                        set |= y(law);
                        taken.add(law);
                        more = true;
                        break;
                    }
                }
            }
            return set;
        }

        int close(int set) {
            return close(set, -1, new ArrayList<>());
        }

        int closure(int x) {
            return (x & ~all()) != 0 ? -2 : close(x);
        }

        int follows(int x, int y) {
            if ((x & ~all()) != 0 || (y & ~all()) != 0) {
                return -2;
            }
            List<Integer> taken = new ArrayList<>();
            if ((y & ~close(x, y, taken)) != 0) {
                return 0;
            }
            steps = taken;
            return 1;
        }

        int step(int i) {
            return i < 0 || i >= steps.size() ? -9 : steps.get(i);
        }

        List<Integer> leastFor(int set) {
            List<Integer> least = new ArrayList<>();
            TreeSet<Integer> telling = new TreeSet<>();
            for (int s = 0; s <= set; s++) {
                if ((s & ~set) == 0 && (set & ~close(s)) == 0) {
                    boolean inner = false;
                    for (int k : telling) {
                        inner |= (k & ~s) == 0;
                    }
                    telling.add(s);
                    if (!inner) {
                        least.add(s);
                    }
                }
            }
            return least;
        }

        List<Integer> keySets() {
            return leastFor(all());
        }

        int key(int i) {
            List<Integer> keys = keySets();
            return i < 0 || i >= keys.size() ? -9 : keys.get(i);
        }

        int union(List<Integer> sets) {
            int all = 0;
            for (int set : sets) {
                all |= set;
            }
            return all;
        }

        int prime() {
            return union(keySets());
        }

        int coverClosure(List<int[]> cover, int[] without, int set) {
            boolean more = true;
            while (more) {
                more = false;
                for (int[] law : cover) {
                    if (law != without && (law[0] & ~set) == 0 && (set & 1 << law[1]) == 0) {
                        set |= 1 << law[1];
                        more = true;
                    }
                }
            }
            return set;
        }

        List<int[]> coverLaws() {
            List<int[]> cover = new ArrayList<>();
            for (int law = 0; law < laws.size(); law++) {
                for (int c = 0; inForce(law) && c < width; c++) {
                    if ((y(law) & ~x(law) & 1 << c) != 0) {
                        cover.add(new int[] {x(law), c});
                    }
                }
            }
            for (int[] law : cover) {
                for (int c = 0; c < width; c++) {
                    int rest = law[0] & ~(1 << c);
                    if (rest != law[0] && (coverClosure(cover, null, rest) & 1 << law[1]) != 0) {
                        law[0] = rest;
                    }
                }
            }
            for (int[] law : new ArrayList<>(cover)) {
                if ((coverClosure(cover, law, law[0]) & 1 << law[1]) != 0) {
                    cover.remove(law);
                }
            }
            return cover;
        }

        int covered(int i, int what) {
            List<int[]> cover = coverLaws();
            if (i < 0 || i >= cover.size()) {
                return -1;
            }
            return what < 0 || what > 1 ? -2 : cover.get(i)[what];
        }

        int third() {
            List<Integer> xs = new ArrayList<>();
            List<Integer> sets = new ArrayList<>();
            for (int[] law : coverLaws()) {
                if (!xs.contains(law[0])) {
                    xs.add(law[0]);
                    sets.add(law[0]);
                }
                int k = xs.indexOf(law[0]);
                sets.set(k, sets.get(k) | 1 << law[1]);
            }
            List<Integer> made = new ArrayList<>();
            for (int i = 0; i < sets.size(); i++) {
                boolean inner = false;
                for (int k = 0; k < sets.size(); k++) {
                    boolean within = k != i && (sets.get(i) & ~sets.get(k)) == 0;
                    inner |= within && (!sets.get(i).equals(sets.get(k)) || k < i);
                }
                if (!inner) {
                    made.add(sets.get(i));
                }
            }
            boolean keyed = false;
            for (int set : made) {
                for (int key : keySets()) {
                    keyed |= (key & ~set) == 0;
                }
            }
            if (!keyed) {
                made.add(keySets().get(0));
            }
            return take(made);
        }

        int take(List<Integer> made) {
            if (made.size() > 12) {
                return -4;
            }
            parts = made;
            return made.size();
        }

        boolean splits(int s, int set) {
            return (s & ~set) == 0 && (close(s) & set & ~s) != 0 && (set & ~close(s)) != 0;
        }

        int strict() {
            List<Integer> made = new ArrayList<>();
            made.add(all());
            boolean more = true;
            while (more && made.size() <= 12) {
                more = false;
                for (int i = 0; i < made.size() && !more; i++) {
                    int set = made.get(i);
                    for (int s = 0; s <= set && !more; s++) {
                        if (splits(s, set)) {
                            made.set(i, close(s) & set);
                            made.add(i + 1, set & ~close(s) | s);
                            more = true;
                        }
                    }
                }
            }
            return take(made);
        }

        int part(int set) {
            if (set == 0 || (set & ~all()) != 0) {
                return -2;
            }
            if (parts.size() == 12) {
                return -4;
            }
            parts.add(set);
            return parts.size();
        }

        int unpart() {
            int was = parts.size();
            parts = new ArrayList<>();
            return was;
        }

        int parted(int i) {
            return i < 0 || i >= parts.size() ? -1 : parts.get(i);
        }

        int form(int set) {
            if (set == 0 || (set & ~all()) != 0) {
                return -2;
            }
            int prime = union(leastFor(set));
            boolean third = true;
            boolean strict = true;
            for (int s = 0; s <= set; s++) {
                for (int c = 0; c < 8; c++) {
                    boolean such = (s & ~set) == 0 && (set & close(s) & ~s & 1 << c) != 0;
                    if (such && (set & ~close(s)) != 0) {
                        strict = false;
                        third &= (prime & 1 << c) != 0;
                    }
                }
            }
            return (third ? 1 : 0) + (strict ? 2 : 0);
        }

        int lossless() {
            int n = parts.size();
            int[][] signs = new int[n][width];
            for (int r = 0; r < n; r++) {
                for (int c = 0; c < width; c++) {
                    signs[r][c] = (parts.get(r) & 1 << c) != 0 ? 0 : 1000 + r * 8 + c;
                }
            }
            boolean more = true;
            while (more) {
                more = false;
                for (int law = 0; law < laws.size(); law++) {
                    for (int i = 0; inForce(law) && i < n; i++) {
                        for (int j = 0; j < n; j++) {
                            more |= chase(signs, law, i, j);
                        }
                    }
                }
            }
            for (int[] row : signs) {
                boolean whole = true;
                for (int sign : row) {
                    whole &= sign == 0;
                }
                if (whole) {
                    return 1;
                }
            }
            return 0;
        }

        boolean chase(int[][] signs, int law, int i, int j) {
            for (int c = 0; c < width; c++) {
                if ((x(law) & 1 << c) != 0 && signs[i][c] != signs[j][c]) {
                    return false;
                }
            }
            boolean changed = false;
            for (int c = 0; c < width; c++) {
                if ((y(law) & 1 << c) != 0 && signs[i][c] != signs[j][c]) {
                    int one = signs[i][c] == 0 || signs[j][c] == 0 ? 0 : signs[i][c];
                    int a = signs[i][c];
                    int b = signs[j][c];
                    for (int[] row : signs) {
                        row[c] = row[c] == a || row[c] == b ? one : row[c];
                    }
                    changed = true;
                }
            }
            return changed;
        }

        boolean kept(int law) {
            int got = x(law);
            int before = -1;
            while (got != before) {
                before = got;
                for (int part : parts) {
                    got |= close(got & part) & part;
                }
            }
            return (y(law) & ~got) == 0;
        }

        int lack() {
            int n = 0;
            for (int law = 0; law < laws.size(); law++) {
                n += inForce(law) && !kept(law) ? 1 : 0;
            }
            return n;
        }

        int keeps(int law) {
            if (noLaw(law)) {
                return -1;
            }
            return !inForce(law) ? -3 : kept(law) ? 1 : 0;
        }

        int project(int t, int set, int u) {
            MTable m = tableAt(t);
            if (m == null || u < 0 || u > 3) {
                return -1;
            }
            if (set < 0 || set > 255) {
                return -2;
            }
            if (set == 0 || !m.has(set) || u == t) {
                return -3;
            }
            MTable made = new MTable(m.areLike);
            for (int c = 0; c < 8; c++) {
                if ((set & 1 << c) != 0) {
                    made.lanes.add(m.lanes.get(c));
                }
            }
            for (Object[] row : m.rows) {
                Object[] cut = new Object[made.lanes.size()];
                int k = 0;
                for (int c = 0; c < 8; c++) {
                    if ((set & 1 << c) != 0) {
                        cut[k++] = row[c];
                    }
                }
                boolean again = false;
                for (Object[] old : made.rows) {
                    boolean same = true;
                    for (int c = 0; c < cut.length; c++) {
                        same &= MTable.cells(old[c], cut[c], m.areLike);
                    }
                    again |= same;
                }
                if (!again) {
                    made.rows.add(cut);
                }
            }
            tables[u] = made;
            return made.rows.size();
        }

        static List<Integer> names(int set) {
            List<Integer> names = new ArrayList<>();
            for (int c = 0; c < 8; c++) {
                if ((set & 1 << c) != 0) {
                    names.add(c);
                }
            }
            return names;
        }

        int join(int t, int x, int u, int y, int w) {
            MTable a = tableAt(t);
            MTable b = tableAt(u);
            if (a == null || b == null || w < 0 || w > 3) {
                return -1;
            }
            if (x < 0 || y < 0 || x > 255 || y > 255) {
                return -2;
            }
            List<Integer> left = names(x);
            List<Integer> right = names(y);
            if (left.size() != a.lanes.size() || right.size() != b.lanes.size() || w == t || w == u) {
                return -3;
            }
            MTable made = new MTable(a.areLike);
            for (int c : names(x | y)) {
                boolean ofLeft = left.contains(c);
                int lane = ofLeft ? a.lanes.get(left.indexOf(c)) : b.lanes.get(right.indexOf(c));
                made.lanes.add(lane);
                if (right.contains(c) && b.lanes.get(right.indexOf(c)) != lane) {
                    return -3;
                }
            }
            for (Object[] r : a.rows) {
                for (Object[] s : b.rows) {
                    boolean meet = true;
                    List<Object> cells = new ArrayList<>();
                    for (int c : names(x | y)) {
                        Object l = left.contains(c) ? r[left.indexOf(c)] : null;
                        Object q = right.contains(c) ? s[right.indexOf(c)] : null;
                        if (left.contains(c) && right.contains(c)) {
                            meet &= MTable.cells(l, q, a.areLike);
                        }
                        cells.add(left.contains(c) ? l : q);
                    }
                    if (meet) {
                        made.rows.add(cells.toArray());
                    }
                }
            }
            if (made.rows.size() > 24) {
                return -4;
            }
            tables[w] = made;
            return made.rows.size();
        }

        int told(int what) {
            switch (what) {
                case 0:
                    return laws.size();
                case 1: {
                    int n = 0;
                    for (int law = 0; law < laws.size(); law++) {
                        n += inForce(law) ? 1 : 0;
                    }
                    return n;
                }
                case 2:
                    return found.size();
                case 3:
                    return parts.size();
                case 4:
                    return steps.size();
                case 5:
                    return width;
                default:
                    return -2;
            }
        }
    }
}
