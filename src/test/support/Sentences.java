import java.io.IOException;
import java.nio.file.Files;
import java.nio.file.Path;
import java.util.ArrayList;
import java.util.Arrays;
import java.util.HashMap;
import java.util.List;
import java.util.Map;

/**
 * What the tests of the document's sentences share. A test names the sentence that it holds the class
 * to; that it stands in the document, and that no words of the document are without a test, is looked
 * at, too.
 */
class Sentences {
    static final int UNKNOWN = -1, OUTSIDE = -2, STATE = -3, FULL = -4, NONE = -9;
    static final int NULL = -11, CAST = -12, INDEX = -13, SIZE = -14;
    static final long LOST = Long.MIN_VALUE;
    static final long NAN = 0x7ff8000000000000L;
    static final int MIN = Integer.MIN_VALUE, MAX = Integer.MAX_VALUE;
    static final int BYTES = 0, SHORTS = 1, CHARS = 2, INTS = 3, LONGS = 4, DOUBLES = 5;
    static final int TELLS = 0, KEY = 1, SEVERAL = 2, NEVER = 3, ORDER = 4, WITHIN = 5;
    /** The place of the section "Terms"; a promise's place is its number. */
    static final int TERMS = 0;

    private static final Path DOCUMENT = Path.of("../shared/DOC.md");
    private static final int AS_BEFORE = -1;

    private static final Map<Integer, String> texts = new HashMap<>();
    private static final Map<Integer, boolean[]> named = new HashMap<>();
    private static String sentence = "no sentence";
    private static int asked = 0;
    private static int wrong = 0;

    interface Setup {
        void on(Finder k);
    }

    interface Call {
        long on(Finder k);
    }

    // ---- the document

    /** Begins a test of sentences of one place of the document. */
    static void of(int place, String... quotes) {
        sentence = (place == TERMS ? "Terms" : "Promise " + place) + ": \"" + String.join("\" .. \"", quotes) + "\"";
        String text = textOf(place);
        for (String quote : quotes) {
            int at = text.indexOf(quote);
            if (at < 0 && !text.isEmpty()) {
                complain("the document does not say \"" + quote + "\"");
            }
            for (int from = at; from >= 0; from = text.indexOf(quote, from + 1)) {
                Arrays.fill(named.get(place), from, from + quote.length(), true);
            }
        }
    }

    private static String textOf(int place) {
        if (!texts.containsKey(place)) {
            String text = read(place);
            texts.put(place, text);
            named.put(place, new boolean[text.length()]);
        }
        return texts.get(place);
    }

    private static String read(int place) {
        if (!Files.exists(DOCUMENT)) {
            return "";
        }
        String heading = place == TERMS ? "## Terms" : "## Promise " + place + ":";
        StringBuilder text = new StringBuilder();
        boolean inside = false;
        for (String line : lines()) {
            if (line.startsWith("## ")) {
                inside = line.startsWith(heading);
            } else if (inside && !line.startsWith("```") && !line.startsWith("Ahead of the calls")) {
                // What stands ahead of a promise's words is the call as the face has it.
                text.append(line.startsWith("`") ? line.substring(line.indexOf("`: ") + 3) : line).append(' ');
            }
        }
        return text.toString().replaceAll("\\s+", " ");
    }

    private static List<String> lines() {
        try {
            return Files.readAllLines(DOCUMENT);
        } catch (IOException e) {
            return new ArrayList<>();
        }
    }

    /** Ends the tests of some places: none of their words may be without a test. */
    static void end(int first, int last) {
        for (int place = first; place <= last; place++) {
            sentence = place == TERMS ? "Terms" : "Promise " + place;
            String text = textOf(place);
            StringBuilder left = new StringBuilder();
            for (int i = 0; i < text.length(); i++) {
                left.append(named.get(place)[i] ? ' ' : text.charAt(i));
            }
            if (left.toString().matches(".*[A-Za-z0-9].*")) {
                complain("no test names: " + left.toString().replaceAll("\\s+", " ").trim());
            }
        }
        System.out.println(wrong == 0 ? "sentences: all " + asked + " answers are as due"
                : "sentences: " + wrong + " are not as due");
        if (wrong != 0) {
            System.exit(1);
        }
    }

    // ---- what is due

    private static void complain(String what) {
        wrong++;
        System.out.println(sentence + ": " + what);
    }

    static void due(long got, long want) {
        asked++;
        if (got != want) {
            complain(Finder.latest + ", due is " + want);
        }
    }

    static void breaksAt(Finder k, int i, int j) {
        due(k.broken(0), i);
        due(k.broken(1), j);
    }

    static void partsAre(Finder k, int... sets) {
        due(k.told(3), sets.length);
        for (int i = 0; i < sets.length; i++) {
            due(k.parted(i), sets[i]);
        }
        due(k.parted(sets.length), UNKNOWN);
    }

    /** THE COVER, told as pairs: X, the column told. */
    static void coverIs(Finder k, int... pairs) {
        due(k.cover(), pairs.length / 2);
        for (int i = 0; i < pairs.length; i += 2) {
            due(k.covered(i / 2, 0), pairs[i]);
            due(k.covered(i / 2, 1), pairs[i + 1]);
        }
        due(k.covered(pairs.length / 2, 0), UNKNOWN);
    }

    static void keysAre(Finder k, int... sets) {
        due(k.keys(), sets.length);
        for (int i = 0; i < sets.length; i++) {
            due(k.key(i), sets[i]);
        }
        due(k.key(sets.length), NONE);
    }

    static void stepsAre(Finder k, int... laws) {
        due(k.told(4), laws.length);
        for (int i = 0; i < laws.length; i++) {
            due(k.step(i), laws[i]);
        }
        due(k.step(laws.length), NONE);
    }

    /** What is FOUND, told as pairs: X, the column told. */
    static void foundAre(Finder k, int... pairs) {
        due(k.told(2), pairs.length / 2);
        for (int i = 0; i < pairs.length; i += 2) {
            due(k.found(i / 2, 0), pairs[i]);
            due(k.found(i / 2, 1), pairs[i + 1]);
        }
        due(k.found(pairs.length / 2, 0), UNKNOWN);
    }

    /** The cells of a TABLE whose columns are all of one LANE. */
    static void cellsAre(Finder k, int t, int lane, long[]... rows) {
        due(k.about(t, 1), rows.length);
        for (int r = 0; r < rows.length; r++) {
            for (int c = 0; c < rows[r].length; c++) {
                due(k.at(t, r, c, lane), rows[r][c]);
            }
        }
    }

    // ---- calls that change nothing

    /** A call that names no FAULTS is refused: it changes nothing. */
    static void refused(Setup setup, Call call, long want) {
        changesNothing(setup, call, want, AS_BEFORE);
    }

    /** A call that names FAULTS is refused: it changes nothing but fault(). */
    static void refusedByOneOfFaults(Setup setup, Call call, long want) {
        changesNothing(setup, call, want, 0);
    }

    /** A call comes to a FAULT: it changes nothing, and fault() tells it. */
    static void faulted(Setup setup, Call call, int want) {
        changesNothing(setup, call, want, -10 - want);
    }

    /** at() answers LOST for a FAULT, and for a refusal (0). */
    static void lost(Setup setup, Call call, int fault) {
        changesNothing(setup, call, LOST, fault);
    }

    private static void changesNothing(Setup setup, Call call, long want, int fault) {
        Finder asked = prepared(setup);
        Finder spared = prepared(setup);
        due(call.on(asked), want);
        String refusal = Finder.latest;
        int before = spared.fault();
        due(asked.fault(), fault == AS_BEFORE ? before : fault);
        List<String> now = seen(asked);
        List<String> then = seen(spared);
        for (int i = 0; i < Math.max(now.size(), then.size()); i++) {
            String is = i < now.size() ? now.get(i) : "nothing";
            String was = i < then.size() ? then.get(i) : "nothing";
            if (!is.equals(was)) {
                complain(refusal + " has changed something: " + is + ", and without it " + was);
                return;
            }
        }
    }

    /** A Finder whose latest call that names FAULTS came to one: to NULL or, if there is a TABLE 0, to INDEX. */
    private static Finder prepared(Setup setup) {
        Finder k = new Finder();
        setup.on(k);
        due(k.at(0, 0, -1, 0), LOST);
        return k;
    }

    /** All that can be seen of the state, as the calls that show it. */
    private static List<String> seen(Finder k) {
        int first = k.calls.size();
        for (int what = 0; what < 6; what++) {
            k.told(what);
        }
        k.broken(0);
        k.broken(1);
        for (int i = 0, n = k.told(2); i < n; i++) {
            k.found(i, 0);
            k.found(i, 1);
        }
        for (int i = 0, n = k.told(4); i < n; i++) {
            k.step(i);
        }
        for (int i = 0, n = k.told(3); i < n; i++) {
            k.parted(i);
        }
        for (int t = 0; t < 4; t++) {
            seeTable(k, t);
        }
        for (int law = 0, n = k.told(0); law < n; law++) {
            seeLaw(k, law);
        }
        k.keys();
        k.cover();
        k.lack();
        return new ArrayList<>(k.calls.subList(first, k.calls.size()));
    }

    private static void seeTable(Finder k, int t) {
        int columns = k.about(t, 0);
        int rows = k.about(t, 1);
        k.about(t, 2);
        for (int c = 0; c < columns; c++) {
            int lane = k.about(t, 4 + c);
            for (int r = 0; r < rows; r++) {
                k.at(t, r, c, lane);
            }
        }
    }

    private static void seeLaw(Finder k, int law) {
        // From the last KIND down, the first that a LAW may be taken as is its own.
        int kind = 5;
        while (kind > 0 && k.say(law, kind, 2) == CAST) {
            kind--;
        }
        k.say(law, kind, 0);
        k.say(law, kind, 1);
        k.say(law, kind, 2);
    }

    // ---- states to begin with

    /** Nothing but the new object. */
    static void fresh(Finder k) {
    }

    /**
     * TABLES 0 (missing ones are like) and 1 (not), 2 and 3 not there; LAWS 0 .. 5 of each KIND, 6 and 7 dropped;
     * a LAW that broke, laws that are FOUND, STEPS and two PARTS.
     */
    static void lived(Finder k) {
        fill(k, 0, true, INTS, cells(1, 2, null), cells(1, 3, null), cells(null, 3, 4));
        fill(k, 1, false, INTS, cells(1, null), cells(null, 2));
        due(k.law(TELLS, 1, 2), 0);
        due(k.law(KEY, 1, 0), 1);
        due(k.law(SEVERAL, 1, 2), 2);
        due(k.law(NEVER, 2, 0), 3);
        due(k.law(ORDER, 1, 2), 4);
        due(k.law(WITHIN, 1, 1), 5);
        due(k.law(TELLS, 2, 4), 6);
        due(k.law(WITHIN, 1, 2), 7);
        due(k.unlaw(6), 1);
        due(k.unlaw(7), 1);
        due(k.hold(0, 0), 0);
        due(k.find(0), 2);
        due(k.follows(1, 2), 1);
        due(k.part(3), 1);
        due(k.part(14), 2);
    }

    static Long[] cells(Integer... values) {
        Long[] row = new Long[values.length];
        for (int c = 0; c < row.length; c++) {
            row[c] = values[c] == null ? null : Long.valueOf(values[c]);
        }
        return row;
    }

    /** A TABLE of columns of one LANE; null is a missing cell. */
    static void fill(Finder k, int t, boolean areLike, int lane, Long[]... rows) {
        due(k.table(t, areLike), 1);
        for (int c = 0; c < rows[0].length; c++) {
            due(k.column(t, lane), c);
        }
        due(k.rows(t, rows.length), rows.length);
        for (int r = 0; r < rows.length; r++) {
            for (int c = 0; c < rows[r].length; c++) {
                if (rows[r][c] != null) {
                    due(k.put(t, r, c, rows[r][c]), 1);
                }
            }
        }
    }

    static Finder with(boolean areLike, Long[]... rows) {
        Finder k = new Finder();
        fill(k, 0, areLike, INTS, rows);
        return k;
    }

    /** A TABLE with as many columns of ints and rows, all cells missing. */
    static void sized(Finder k, int t, int columns, int rows) {
        due(k.table(t, true), 1);
        for (int c = 0; c < columns; c++) {
            due(k.column(t, INTS), c);
        }
        due(k.rows(t, rows), rows);
    }

    /** A WIDTH with TELLS laws, told as pairs: X, Y. */
    static Finder telling(int width, int... pairs) {
        Finder k = new Finder();
        tell(k, width, pairs);
        return k;
    }

    static void tell(Finder k, int width, int... pairs) {
        due(k.width(width), 4);
        for (int i = 0; i < pairs.length; i += 2) {
            due(k.law(TELLS, pairs[i], pairs[i + 1]), i / 2);
        }
    }

    static void part(Finder k, int... sets) {
        for (int i = 0; i < sets.length; i++) {
            due(k.part(sets[i]), i + 1);
        }
    }

    static long bits(double d) {
        return Double.doubleToLongBits(d);
    }
}
