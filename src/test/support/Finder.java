import java.util.ArrayList;
import java.util.List;

/** A KeyFinder that notes its calls, and that no test uses for more calls than the document speaks of. */
final class Finder {
    private static final int MOST_CALLS = 512;

    /** The latest call of any Finder, with its answer. */
    static String latest = "no call";

    final List<String> calls = new ArrayList<>();
    private final KeyFinder real = new KeyFinder();

    private long noted(long answer, String name, Object... given) {
        StringBuilder call = new StringBuilder(name).append('(');
        for (int i = 0; i < given.length; i++) {
            call.append(i == 0 ? "" : ", ").append(given[i]);
        }
        latest = call.append(") = ").append(answer).toString();
        calls.add(latest);
        if (calls.size() > MOST_CALLS) {
            throw new IllegalStateException("a test makes more calls than the document speaks of");
        }
        return answer;
    }

    int table(int t, boolean areLike) {
        return (int) noted(real.table(t, areLike), "table", t, areLike);
    }

    int drop(int t) {
        return (int) noted(real.drop(t), "drop", t);
    }

    int column(int t, int lane) {
        return (int) noted(real.column(t, lane), "column", t, lane);
    }

    int rows(int t, int n) {
        return (int) noted(real.rows(t, n), "rows", t, n);
    }

    int put(int t, int row, int column, long v) {
        return (int) noted(real.put(t, row, column, v), "put", t, row, column, v);
    }

    int miss(int t, int row, int column) {
        return (int) noted(real.miss(t, row, column), "miss", t, row, column);
    }

    long at(int t, int row, int column, int lane) {
        return noted(real.at(t, row, column, lane), "at", t, row, column, lane);
    }

    int copy(int t, int from, int i, int to, int j, int n) {
        return (int) noted(real.copy(t, from, i, to, j, n), "copy", t, from, i, to, j, n);
    }

    int about(int t, int what) {
        return (int) noted(real.about(t, what), "about", t, what);
    }

    int like(int t, int i, int j, int set) {
        return (int) noted(real.like(t, i, j, set), "like", t, i, j, set);
    }

    int law(int kind, int x, int y) {
        return (int) noted(real.law(kind, x, y), "law", kind, x, y);
    }

    int unlaw(int law) {
        return (int) noted(real.unlaw(law), "unlaw", law);
    }

    int say(int law, int as, int what) {
        return (int) noted(real.say(law, as, what), "say", law, as, what);
    }

    int hold(int t, int law) {
        return (int) noted(real.hold(t, law), "hold", t, law);
    }

    int broken(int what) {
        return (int) noted(real.broken(what), "broken", what);
    }

    int find(int t) {
        return (int) noted(real.find(t), "find", t);
    }

    int found(int i, int what) {
        return (int) noted(real.found(i, what), "found", i, what);
    }

    int misses(int t, int x, int y) {
        return (int) noted(real.misses(t, x, y), "misses", t, x, y);
    }

    int twice(int t, int x, int y) {
        return (int) noted(real.twice(t, x, y), "twice", t, x, y);
    }

    int width(int n) {
        return (int) noted(real.width(n), "width", n);
    }

    int closure(int x) {
        return (int) noted(real.closure(x), "closure", x);
    }

    int follows(int x, int y) {
        return (int) noted(real.follows(x, y), "follows", x, y);
    }

    int step(int i) {
        return (int) noted(real.step(i), "step", i);
    }

    int keys() {
        return (int) noted(real.keys(), "keys");
    }

    int key(int i) {
        return (int) noted(real.key(i), "key", i);
    }

    int prime() {
        return (int) noted(real.prime(), "prime");
    }

    int cover() {
        return (int) noted(real.cover(), "cover");
    }

    int covered(int i, int what) {
        return (int) noted(real.covered(i, what), "covered", i, what);
    }

    int third() {
        return (int) noted(real.third(), "third");
    }

    int strict() {
        return (int) noted(real.strict(), "strict");
    }

    int part(int set) {
        return (int) noted(real.part(set), "part", set);
    }

    int unpart() {
        return (int) noted(real.unpart(), "unpart");
    }

    int parted(int i) {
        return (int) noted(real.parted(i), "parted", i);
    }

    int form(int set) {
        return (int) noted(real.form(set), "form", set);
    }

    int lossless() {
        return (int) noted(real.lossless(), "lossless");
    }

    int lack() {
        return (int) noted(real.lack(), "lack");
    }

    int keeps(int law) {
        return (int) noted(real.keeps(law), "keeps", law);
    }

    int project(int t, int set, int u) {
        return (int) noted(real.project(t, set, u), "project", t, set, u);
    }

    int join(int t, int x, int u, int y, int w) {
        return (int) noted(real.join(t, x, u, y, w), "join", t, x, u, y, w);
    }

    int fault() {
        return (int) noted(real.fault(), "fault");
    }

    int told(int what) {
        return (int) noted(real.told(what), "told", what);
    }
}
