import java.io.IOException;
import java.lang.management.ManagementFactory;
import java.lang.reflect.Constructor;
import java.lang.reflect.Field;
import java.lang.reflect.Method;
import java.lang.reflect.Modifier;
import java.nio.file.Files;
import java.nio.file.Path;
import java.util.Random;
import java.util.TreeSet;
import java.util.regex.Matcher;
import java.util.regex.Pattern;

/** The face of the class is the one that the document writes out; drawn calls throw nothing and take little room. */
public final class KeyFinderFaceTest {
    private static final Path DOCUMENT = Path.of("../shared/DOC.md");
    private static final int METHODS = 41, CONSTANTS = 6;
    /** Bytes that an object and its 512 dearest calls may take: far below the room that all calls of a run share. */
    private static final long ROOM = 4_000_000;

    private static int wrong = 0;

    private static void due(boolean is, String what) {
        if (!is) {
            wrong++;
            System.out.println("face: " + what);
        }
    }

    public static void main(String[] args) throws Exception {
        String face = faceOfDocument();
        due(face.contains("public final class KeyFinder {"), "the document has no face");
        due(Modifier.isPublic(KeyFinder.class.getModifiers()), "the class is not public");
        due(Modifier.isFinal(KeyFinder.class.getModifiers()), "the class is not final");
        due(KeyFinder.class.getSuperclass() == Object.class, "the class extends another");
        due(KeyFinder.class.getInterfaces().length == 0, "the class implements something");
        constructor(face);
        methods(face);
        constants(face);
        innerClasses();
        throwsNothing();
        room();
        System.out.println(wrong == 0 ? "face: as the document has it" : "face: " + wrong + " faults");
        if (wrong != 0) {
            System.exit(1);
        }
    }

    // ---- the face

    private static String faceOfDocument() throws IOException {
        String text = Files.readString(DOCUMENT);
        Matcher m = Pattern.compile("## The public face\\s+```java\\n(.*?)```", Pattern.DOTALL).matcher(text);
        return m.find() ? m.group(1) : "";
    }

    private static void constructor(String face) {
        due(face.contains("public KeyFinder();"), "the document has another constructor");
        Constructor<?>[] all = KeyFinder.class.getDeclaredConstructors();
        due(all.length == 1, "there are " + all.length + " constructors");
        for (Constructor<?> c : all) {
            due(Modifier.isPublic(c.getModifiers()) && c.getParameterCount() == 0, "another constructor: " + c);
            due(c.getExceptionTypes().length == 0, c + " says that it throws");
        }
    }

    private static void methods(String face) {
        TreeSet<String> want = new TreeSet<>();
        Matcher m = Pattern.compile("public (int|long) (\\w+)\\(([^)]*)\\);").matcher(face);
        while (m.find()) {
            String types = m.group(3).replaceAll("(int|long|boolean) \\w+", "$1").replace(" ", "");
            want.add(m.group(1) + " " + m.group(2) + "(" + types + ")");
        }
        due(want.size() == METHODS, "the document has " + want.size() + " methods");
        TreeSet<String> names = new TreeSet<>();
        TreeSet<String> have = new TreeSet<>();
        for (Method method : KeyFinder.class.getDeclaredMethods()) {
            if (!Modifier.isPrivate(method.getModifiers()) && !method.isSynthetic()) {
                due(method.getModifiers() == Modifier.PUBLIC, "not just public: " + method);
                due(method.getExceptionTypes().length == 0, method + " says that it throws");
                have.add(signatureOf(method));
                names.add(method.getName());
            }
        }
        due(have.equals(want), "methods are " + have + ", due are " + want);
        noPrivateOfThatName(names);
    }

    private static String signatureOf(Method method) {
        StringBuilder text = new StringBuilder(method.getReturnType() + " " + method.getName() + "(");
        for (Class<?> p : method.getParameterTypes()) {
            text.append(text.charAt(text.length() - 1) == '(' ? "" : ",").append(p);
        }
        return text.append(")").toString();
    }

    private static void noPrivateOfThatName(TreeSet<String> names) {
        for (Method m : KeyFinder.class.getDeclaredMethods()) {
            due(!Modifier.isPrivate(m.getModifiers()) || !names.contains(m.getName()), "a private " + m.getName());
        }
        for (Class<?> inner : KeyFinder.class.getDeclaredClasses()) {
            for (Method m : inner.getDeclaredMethods()) {
                due(!names.contains(m.getName()), inner.getSimpleName() + " has another " + m.getName());
            }
        }
    }

    private static void constants(String face) throws IllegalAccessException {
        TreeSet<String> want = new TreeSet<>();
        Matcher m = Pattern.compile("public static final (int|long) ([^;]*);").matcher(face);
        while (m.find()) {
            for (String one : m.group(2).split(",")) {
                String value = one.trim().replace("Long.MIN_VALUE", String.valueOf(Long.MIN_VALUE));
                want.add(m.group(1) + " " + value);
            }
        }
        due(want.size() == CONSTANTS, "the document has " + want.size() + " constants");
        TreeSet<String> have = new TreeSet<>();
        for (Field f : KeyFinder.class.getDeclaredFields()) {
            boolean isStatic = Modifier.isStatic(f.getModifiers());
            due(!isStatic || Modifier.isFinal(f.getModifiers()), "static and not final: " + f);
            if (!Modifier.isPrivate(f.getModifiers())) {
                due(Modifier.isPublic(f.getModifiers()) && isStatic, "not public or not static: " + f);
                have.add(f.getType() + " " + f.getName() + " = " + (isStatic ? f.get(null) : "of each object"));
            }
        }
        due(have.equals(want), "constants are " + have + ", due are " + want);
    }

    private static void innerClasses() {
        for (Class<?> inner : KeyFinder.class.getDeclaredClasses()) {
            due(Modifier.isStatic(inner.getModifiers()), inner + " is not static");
            due(!Modifier.isPublic(inner.getModifiers()), inner + " is public");
            due(!Modifier.isProtected(inner.getModifiers()), inner + " is protected");
        }
    }

    // ---- nothing is thrown

    /** Arguments drawn from fixed seeds, near the limits and far off, behind the 512th call, too. */
    private static void throwsNothing() throws Exception {
        TreeSet<String> names = new TreeSet<>();
        for (int seed = 0; seed < 40; seed++) {
            Random random = new Random(seed);
            KeyFinder k = new KeyFinder();
            Method[] methods = KeyFinder.class.getMethods();
            for (int n = 0; n < 1500; n++) {
                Method m = methods[random.nextInt(methods.length)];
                if (m.getDeclaringClass() == KeyFinder.class) {
                    names.add(m.getName());
                    callWith(k, m, random);
                }
            }
        }
        due(names.size() == METHODS, "not all methods were called: " + names);
    }

    private static void callWith(KeyFinder k, Method m, Random random) throws IllegalAccessException {
        Object[] given = new Object[m.getParameterCount()];
        StringBuilder told = new StringBuilder(m.getName());
        for (int i = 0; i < given.length; i++) {
            Class<?> type = m.getParameterTypes()[i];
            given[i] = type == boolean.class ? (Object) random.nextBoolean()
                    : type == long.class ? (Object) random.nextLong() : (Object) number(random);
            told.append(' ').append(given[i]);
        }
        try {
            m.invoke(k, given);
        } catch (java.lang.reflect.InvocationTargetException e) {
            due(false, told + " throws " + e.getCause());
        }
    }

    private static int number(Random random) {
        int[] edges = {-1, 8, 9, 24, 25, 40, 255, 256, 257, 1 << 30, -1 << 30, Integer.MIN_VALUE, Integer.MAX_VALUE};
        switch (random.nextInt(12)) {
            case 0:
                return edges[random.nextInt(edges.length)];
            case 1:
                return random.nextInt(256);
            case 2:
                return random.nextInt();
            default:
                return random.nextInt(1 + random.nextInt(8));
        }
    }

    // ---- room

    private static void room() {
        if (!(ManagementFactory.getThreadMXBean() instanceof com.sun.management.ThreadMXBean)) {
            return;
        }
        com.sun.management.ThreadMXBean counter = (com.sun.management.ThreadMXBean) ManagementFactory.getThreadMXBean();
        dearest();
        long before = counter.getThreadAllocatedBytes(Thread.currentThread().getId());
        dearest();
        long taken = counter.getThreadAllocatedBytes(Thread.currentThread().getId()) - before;
        due(taken < ROOM, "an object and 512 calls take " + taken + " bytes");
    }

    /** 24 rows of eight columns and many laws: then what is dearest to answer, again and again. */
    private static void dearest() {
        KeyFinder k = new KeyFinder();
        k.width(8);
        k.table(0, true);
        for (int c = 0; c < 8; c++) {
            k.column(0, 0);
        }
        k.rows(0, 24);
        for (int r = 0; r < 24; r++) {
            for (int c = 0; c < 8; c++) {
                k.put(0, r, c, r >> c % 5 & 1);
            }
        }
        for (int law = 0; law < 39; law++) {
            k.law(0, law * 37 % 255, 255);
        }
        k.law(2, 1, 2);
        for (int n = 0; n < 20; n++) {
            k.unlaw(n);
            k.find(0);
            k.hold(0, 39);
            k.keys();
            k.cover();
            k.third();
            k.strict();
            k.form(255);
            k.lossless();
            k.lack();
            k.project(0, 255, 1);
            k.join(0, 255, 1, 255, 2);
            k.misses(0, 0, 255);
        }
    }
}
