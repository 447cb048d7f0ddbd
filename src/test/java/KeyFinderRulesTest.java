import java.io.IOException;
import java.nio.file.Files;
import java.nio.file.Path;
import java.util.ArrayList;
import java.util.HashMap;
import java.util.List;
import java.util.Map;
import java.util.TreeSet;
import java.util.regex.Matcher;
import java.util.regex.Pattern;

/** Rules of LANGUAGE.md that can be read off the text of the class. */
public final class KeyFinderRulesTest {
    private static final Path CLASS = Path.of("src/main/java/KeyFinder.java");
    private static final String[] RULED_OUT = {
        "\\bfinally\\b", "(?m)^(?!\\s*(case|default)\\b).*->", "::", "\\bsynchronized\\b", "\\bassert\\b", "Exact\\b",
        "\\bSystem\\.(?!arraycopy\\b)", "\\bDouble\\b", "\\bFloat\\b", "\\bThread\\b", "\\bRandom\\b", "\\bpackage\\b",
        "[^\\x00-\\x7f]", "\\bArrays\\.(?!copyOf\\b|copyOfRange\\b|fill\\b)", "\\bObject\\b", "\\bClass\\b",
        "\\b(equals|hashCode|toString|getClass|getMessage)\\b", "\\bstatic\\s*\\{", "\\[\\]\\[\\]\\[\\]", "\\bwhile\\s*\\(true",
        "for\\s*\\(\\s*;\\s*;",
        "import (?!java\\.util\\.(Arrays|ArrayList|List|Iterator|NoSuchElementException);)",
        "throw (?!new (IllegalStateException|IllegalArgumentException|IndexOutOfBoundsException|ArithmeticException"
            + "|UnsupportedOperationException|NoSuchElementException|RuntimeException)\\((\"[^\"]*\")?\\);)",
        "catch\\s*\\([^)]*\\b(Throwable|Error|Exception|NullPointerException|ClassCastException"
            + "|ArrayIndexOutOfBoundsException|NegativeArraySizeException|ArrayStoreException)\\b"};
    private static final int MOST_LINES = 60, MOST_PARAMETERS = 7, MOST_DEEP = 8, MOST_CLASSES = 12, MOST_FIELDS = 20;
    private static final Pattern METHOD = Pattern.compile(
            "(?m)^ +(?:public |private |static |final )*(?:int|long|boolean|void|Table) (\\w+)\\(([^)]*)\\) \\{\\n");

    private static int wrong = 0;

    private static void due(boolean is, String what) {
        if (!is) {
            wrong++;
            System.out.println("rules: " + what);
        }
    }

    public static void main(String[] args) throws IOException {
        String text = Files.readString(CLASS);
        String code = text.replaceAll("(?s)/\\*.*?\\*/", "").replaceAll("//[^\n]*", "");
        for (String ruled : RULED_OUT) {
            Matcher m = Pattern.compile(ruled).matcher(code);
            due(!m.find(), "the text has what is ruled out: " + ruled);
        }
        classes();
        methods(code);
        System.out.println(wrong == 0 ? "rules: kept" : "rules: " + wrong + " are not kept");
        if (wrong != 0) {
            System.exit(1);
        }
    }

    private static void classes() {
        Class<?>[] inner = KeyFinder.class.getDeclaredClasses();
        due(1 + inner.length <= MOST_CLASSES, "there are " + (1 + inner.length) + " classes");
        fields(KeyFinder.class);
        for (Class<?> one : inner) {
            fields(one);
        }
    }

    private static void fields(Class<?> owner) {
        int fields = 0;
        for (java.lang.reflect.Field f : owner.getDeclaredFields()) {
            boolean isStatic = java.lang.reflect.Modifier.isStatic(f.getModifiers());
            due(!isStatic || java.lang.reflect.Modifier.isFinal(f.getModifiers()), "static and not final: " + f);
            fields += isStatic ? 0 : 1;
        }
        due(fields <= MOST_FIELDS, owner.getSimpleName() + " has " + fields + " fields");
    }

    // ---- methods

    private static void methods(String code) {
        Map<String, String> bodies = new HashMap<>();
        Matcher m = METHOD.matcher(code);
        while (m.find()) {
            String name = m.group(1);
            String body = bodyFrom(code, m.end());
            int lines = 2 + body.split("\n").length;
            due(lines <= MOST_LINES, name + " has " + lines + " lines");
            due(m.group(2).split(",").length <= MOST_PARAMETERS, name + " takes too many");
            // Names that stand once let calls be told by their names alone.
            due(bodies.put(name, body) == null, "two methods are called " + name);
        }
        due(bodies.size() > 41, "only " + bodies.size() + " methods were seen");
        Map<String, Integer> depths = new HashMap<>();
        for (String name : bodies.keySet()) {
            int deep = depthOf(name, bodies, depths, new ArrayList<>());
            due(deep <= MOST_DEEP, name + " goes " + deep + " calls deep");
        }
    }

    private static String bodyFrom(String code, int start) {
        int open = 1;
        for (int i = start; i < code.length(); i++) {
            open += code.charAt(i) == '{' ? 1 : code.charAt(i) == '}' ? -1 : 0;
            if (open == 0) {
                return code.substring(start, i);
            }
        }
        return code.substring(start);
    }

    /** How many calls stand open at once at most below and with a method; recursion, which the class needs none of, fails. */
    private static int depthOf(String name, Map<String, String> bodies, Map<String, Integer> depths, List<String> open) {
        if (depths.containsKey(name)) {
            return depths.get(name);
        }
        if (open.contains(name)) {
            due(false, name + " calls itself: " + open);
            return 0;
        }
        open.add(name);
        int deepest = 0;
        for (String called : calledIn(bodies.get(name), bodies)) {
            deepest = Math.max(deepest, depthOf(called, bodies, depths, open));
        }
        open.remove(name);
        depths.put(name, 1 + deepest);
        return 1 + deepest;
    }

    private static TreeSet<String> calledIn(String body, Map<String, String> bodies) {
        TreeSet<String> called = new TreeSet<>();
        Matcher m = Pattern.compile("\\b(\\w+)\\(").matcher(body);
        while (m.find()) {
            if (bodies.containsKey(m.group(1))) {
                called.add(m.group(1));
            }
        }
        return called;
    }
}
