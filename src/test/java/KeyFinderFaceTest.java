import java.io.IOException;
import java.lang.management.ManagementFactory;
import java.lang.reflect.Constructor;
import java.lang.reflect.Field;
import java.lang.reflect.Method;
import java.lang.reflect.Modifier;
import java.nio.file.Files;
import java.nio.file.Path;
import java.util.TreeSet;
import java.util.regex.Matcher;
import java.util.regex.Pattern;

/** The face of the class is the document's, and its text keeps to rules of LANGUAGE.md that can be read off. */
public final class KeyFinderFaceTest {
    private static final String[] FACE = {
        "int table(int,boolean)", "int drop(int)", "int column(int,int)", "int rows(int,int)",
        "int put(int,int,int,long)", "int miss(int,int,int)", "long at(int,int,int,int)",
        "int copy(int,int,int,int,int,int)", "int about(int,int)", "int like(int,int,int,int)",
        "int law(int,int,int)", "int unlaw(int)", "int say(int,int,int)", "int hold(int,int)", "int broken(int)",
        "int find(int)", "int found(int,int)", "int misses(int,int,int)", "int twice(int,int,int)",
        "int width(int)", "int closure(int)", "int follows(int,int)", "int step(int)", "int keys()", "int key(int)",
        "int prime()", "int cover()", "int covered(int,int)", "int third()", "int strict()", "int part(int)",
        "int unpart()", "int parted(int)", "int form(int)", "int lossless()", "int lack()", "int keeps(int)",
        "int project(int,int,int)", "int join(int,int,int,int,int)", "int fault()", "int told(int)"};
    private static final String[] CONSTANTS = {
        "int UNKNOWN", "int OUTSIDE", "int STATE", "int FULL", "int NONE", "long LOST"};
    private static final String[] RULED_OUT = {
        "\\bfinally\\b", "(?m)^(?!\\s*(case|default)\\b).*->", "::", "\\bsynchronized\\b", "\\bassert\\b", "Exact\\b",
        "\\bSystem\\.(?!arraycopy)", "\\bDouble\\b", "\\bThread\\b", "\\bRandom\\b", "\\bpackage\\b", "[^\\x00-\\x7f]",
        "import (?!java\\.util\\.(Arrays|ArrayList|List|Iterator|NoSuchElementException);)",
        "catch\\s*\\([^)]*\\b(Throwable|Error|Exception|NullPointerException|ClassCastException"
            + "|ArrayIndexOutOfBoundsException|NegativeArraySizeException|ArrayStoreException)\\b"};
    /** Bytes that an object and its 512 dearest calls may take: far below the room that all calls of a run share. */
    private static final long ROOM = 4_000_000;

    private static int wrong = 0;

    private static void due(boolean is, String what) {
        if (!is) {
            wrong++;
            System.out.println("face: " + what);
        }
    }

    public static void main(String[] args) throws IOException {
        due(Modifier.isPublic(KeyFinder.class.getModifiers()), "the class is not public");
        due(Modifier.isFinal(KeyFinder.class.getModifiers()), "the class is not final");
        methods();
        constants();
        for (Constructor<?> c : KeyFinder.class.getDeclaredConstructors()) {
            due(Modifier.isPublic(c.getModifiers()) && c.getParameterCount() == 0, "another constructor: " + c);
        }
        for (Class<?> inner : KeyFinder.class.getDeclaredClasses()) {
            due(Modifier.isStatic(inner.getModifiers()), inner + " is not static");
        }
        text();
        room();
        System.out.println(wrong == 0 ? "face: as the document has it" : "face: " + wrong + " faults");
        if (wrong != 0) {
            System.exit(1);
        }
    }

    private static void methods() {
        TreeSet<String> face = new TreeSet<>();
        TreeSet<String> names = new TreeSet<>();
        for (Method m : KeyFinder.class.getDeclaredMethods()) {
            if (Modifier.isPrivate(m.getModifiers()) || m.isSynthetic()) {
                continue;
            }
            due(Modifier.isPublic(m.getModifiers()) && !Modifier.isStatic(m.getModifiers()), "not public: " + m);
            StringBuilder text = new StringBuilder(m.getReturnType() + " " + m.getName() + "(");
            for (Class<?> p : m.getParameterTypes()) {
                text.append(text.charAt(text.length() - 1) == '(' ? "" : ",").append(p);
            }
            face.add(text.append(")").toString());
            names.add(m.getName());
        }
        due(face.equals(new TreeSet<>(java.util.List.of(FACE))), "methods are " + face);
        due(FACE.length == 41, "the face has " + FACE.length + " methods");
        noOtherOfThatName(KeyFinder.class, names);
        for (Class<?> inner : KeyFinder.class.getDeclaredClasses()) {
            noOtherOfThatName(inner, names);
        }
    }

    private static void noOtherOfThatName(Class<?> owner, TreeSet<String> names) {
        for (Method m : owner.getDeclaredMethods()) {
            boolean isPrivate = Modifier.isPrivate(m.getModifiers());
            due(!isPrivate || !names.contains(m.getName()), owner.getSimpleName() + " has another " + m.getName());
            due(m.getParameterCount() <= 7, m + " takes too many");
        }
    }

    private static void constants() {
        TreeSet<String> seen = new TreeSet<>();
        for (Field f : KeyFinder.class.getDeclaredFields()) {
            boolean isStatic = Modifier.isStatic(f.getModifiers());
            due(!isStatic || Modifier.isFinal(f.getModifiers()), "static and not final: " + f);
            if (!Modifier.isPrivate(f.getModifiers())) {
                due(Modifier.isPublic(f.getModifiers()) && isStatic, "not public or not static: " + f);
                seen.add(f.getType() + " " + f.getName());
            }
        }
        due(seen.equals(new TreeSet<>(java.util.List.of(CONSTANTS))), "constants are " + seen);
    }

    private static void text() throws IOException {
        Path path = Path.of("src/main/java/KeyFinder.java");
        if (!Files.exists(path)) {
            return;
        }
        String code = Files.readString(path).replaceAll("(?s)/\\*.*?\\*/", "").replaceAll("//[^\n]*", "");
        for (String ruled : RULED_OUT) {
            Matcher m = Pattern.compile(ruled).matcher(code);
            due(!m.find(), "the text has what is ruled out: " + ruled);
        }
    }

    private static void room() {
        if (!(ManagementFactory.getThreadMXBean() instanceof com.sun.management.ThreadMXBean)) {
            return;
        }
        com.sun.management.ThreadMXBean counter = (com.sun.management.ThreadMXBean) ManagementFactory.getThreadMXBean();
        dearest();
        long before = counter.getThreadAllocatedBytes(Thread.currentThread().getId());
        dearest();
        long taken = counter.getThreadAllocatedBytes(Thread.currentThread().getId()) - before;
        due(taken < ROOM, "an object and 512 calls take " + taken + " bytes");
    }

    /** 24 rows of eight columns and many laws: then what is dearest to answer, again and again. */
    private static void dearest() {
        KeyFinder k = new KeyFinder();
        k.width(8);
        k.table(0, true);
        for (int c = 0; c < 8; c++) {
            k.column(0, 0);
        }
        k.rows(0, 24);
        for (int r = 0; r < 24; r++) {
            for (int c = 0; c < 8; c++) {
                k.put(0, r, c, r >> c % 5 & 1);
            }
        }
        for (int law = 0; law < 39; law++) {
            k.law(0, law * 37 % 255, 255);
        }
        k.law(2, 1, 2);
        for (int n = 0; n < 20; n++) {
            k.unlaw(n);
            k.find(0);
            k.hold(0, 39);
            k.keys();
            k.cover();
            k.third();
            k.strict();
            k.form(255);
            k.lossless();
            k.lack();
            k.project(0, 255, 1);
            k.join(0, 255, 1, 255, 2);
            k.misses(0, 0, 255);
        }
    }
}
