import java.io.IOException;
import java.lang.management.ManagementFactory;
import java.lang.reflect.Constructor;
import java.lang.reflect.Field;
import java.lang.reflect.Method;
import java.lang.reflect.Modifier;
import java.nio.file.Files;
import java.nio.file.Path;
import java.util.ArrayList;
import java.util.List;
import java.util.Map;
import java.util.Set;
import java.util.TreeMap;
import java.util.TreeSet;
import java.util.regex.Matcher;
import java.util.regex.Pattern;

/** The face and nothing beside it, the forms that LANGUAGE.md leaves out, and what calls make. */
public final class FaceTest {
    private static final String[] FACE = {
        "int row(int,int)", "int lay(int,int,int)", "int at(int,int)", "int tear(int)",
        "int copy(int,int,int,int,int)", "int mean(int)", "int text(int,int)", "int put(int,int,int)",
        "int fault(int,boolean)", "int rule(int,int)", "int numbered(int,int)", "int page(int,int)",
        "int clause(int,int)", "int mark(int,int,int)", "int line(int,int)", "int expects(int,int)",
        "int days(int,int,int)", "int write(int,int,int)", "int fewest(int,int)", "int many(int,int)",
        "int open(int,int)", "int read()", "int keep(int)", "int on(int)", "int worlds(int,int,int,int,int)",
        "int sure(int,int,int,int,int)", "int can(int,int,int,int,int,int)", "int rules(int,int)",
        "int agree(int,int)", "int ask(int,int)", "int likely(int,int,int,int)", "int left(int,int)",
        "int changed(int,int,int,int)", "int when(int,int,int,int)", "int joined(int,int,int,int)",
        "int follows(int,int,int)", "int know(int,int)", "int forget(int)", "int forbids(int,int)",
        "int suspects(int,int)", "int asked()", "long upper()", "long lower()", "int count(int)",
        "int finding()", "int findings(int)", "long digest()"};
    private static final String[] CONSTANTS = {"BAD", "FULL", "FINDING", "STATE", "SPENT", "NONE"};
    private static final int[] VALUES = {-1, -2, -3, -4, -6, -9};
    private static final String[] LEFT_OUT = {"throw", "throws", "try", "catch", "finally", "synchronized", "assert",
        "import", "package", "protected", "volatile", "native", "System\\.out", "System\\.nanoTime",
        "System\\.currentTimeMillis", "Random", "Thread", "->", "::", "Exact"};

    private static final Set<String> LIBRARY = Set.of("Math.min", "Math.max", "Integer.bitCount", "System.arraycopy");

    public static void main(String[] args) throws Exception {
        face();
        constants();
        members();
        source();
        library();
        depth();
        makesNothing();
        Due.end();
    }

    private static void check(String what, boolean is) {
        if (!is) Due.tell(what);
    }

    private static String told(Method m) {
        StringBuilder told = new StringBuilder(m.getReturnType().getName() + " " + m.getName() + "(");
        for (Class<?> type : m.getParameterTypes()) {
            if (told.charAt(told.length() - 1) != '(') told.append(',');
            told.append(type.getName());
        }
        return told.append(')').toString();
    }

    private static void face() {
        Due.part("the face");
        Set<String> there = new TreeSet<>();
        for (Method m : OtherwiseBook.class.getDeclaredMethods()) {
            if (!Modifier.isPrivate(m.getModifiers())) there.add(told(m));
            check(m + " is no public method of an object",
                    Modifier.isPrivate(m.getModifiers()) || m.getModifiers() == Modifier.PUBLIC);
        }
        Set<String> due = new TreeSet<>(List.of(FACE));
        check("the methods are " + there, there.equals(due));
        Constructor<?>[] makers = OtherwiseBook.class.getDeclaredConstructors();
        check("one public constructor without arguments", makers.length == 1
                && makers[0].getParameterCount() == 0 && Modifier.isPublic(makers[0].getModifiers()));
        check("public and final", OtherwiseBook.class.getModifiers() == (Modifier.PUBLIC | Modifier.FINAL));
    }

    private static void constants() throws Exception {
        Due.part("the constants");
        for (int i = 0; i < CONSTANTS.length; i++) {
            Field f = OtherwiseBook.class.getDeclaredField(CONSTANTS[i]);
            check(f + " is a constant", f.getModifiers() == (Modifier.PUBLIC | Modifier.STATIC | Modifier.FINAL));
            Due.same(CONSTANTS[i], f.getInt(null), VALUES[i]);
        }
        int open = 0;
        for (Field f : OtherwiseBook.class.getDeclaredFields()) if (!Modifier.isPrivate(f.getModifiers())) open++;
        Due.same("fields that are not private", open, CONSTANTS.length);
    }

    private static void members() {
        Due.part("the members");
        List<Class<?>> all = new ArrayList<>(List.of(OtherwiseBook.class.getDeclaredClasses()));
        for (Class<?> c : all) {
            check(c + " is static", Modifier.isStatic(c.getModifiers()));
            check(c + " is not public", !Modifier.isPublic(c.getModifiers()) && !Modifier.isProtected(c.getModifiers()));
        }
        all.add(OtherwiseBook.class);
        check("twelve classes at most", all.size() <= 12);
        Set<String> names = new TreeSet<>();
        for (String method : FACE) names.add(method.substring(method.indexOf(' ') + 1, method.indexOf('(')));
        for (Class<?> c : all) {
            int fields = 0;
            for (Field f : c.getDeclaredFields()) {
                if (!Modifier.isStatic(f.getModifiers())) fields++;
                else check(f + " is final", Modifier.isFinal(f.getModifiers()));
            }
            check(c + " has " + fields + " fields", fields <= 20);
            for (Method m : c.getDeclaredMethods()) {
                check(m + " takes too many", m.getParameterCount() <= 7);
                check(m + " bears a name of the face", Modifier.isPublic(m.getModifiers()) || !names.contains(m.getName()));
            }
        }
    }

    private static String all() throws IOException {
        return Files.readString(Path.of("src/main/java/OtherwiseBook.java"));
    }

    private static String code() throws IOException {
        return all().replaceAll("(?s)/\\*.*?\\*/", "").replaceAll("//[^\n]*", "");
    }

    private static void source() throws IOException {
        Due.part("the source");
        String all = all();
        String code = code();
        for (String word : LEFT_OUT) {
            String form = Character.isLetter(word.charAt(0)) && !word.equals("Exact") ? "\\b" + word + "\\b" : word;
            check("it has " + word, !Pattern.compile(form).matcher(code).find());
        }
        for (char sign : all.toCharArray()) {
            if (sign > 126) Due.tell("it has the sign " + (int) sign);
        }
        Matcher method = Pattern.compile("(?m)^( +)[^\n;=]*\\) \\{$").matcher(all);
        while (method.find()) {
            int end = all.indexOf("\n" + method.group(1) + "}", method.end());
            if (end < 0) continue;
            long lines = all.substring(method.start(), end).lines().count();
            check(method.group() + " has " + lines + " lines", lines <= 60);
        }
    }

    private static void library() throws IOException {
        Due.part("the library");
        Matcher used = Pattern.compile("\\b[A-Z][a-z]\\w*\\.\\w+").matcher(code());
        while (used.find()) check("it uses " + used.group(), LIBRARY.contains(used.group()));
        check("it uses a type that it does not need",
                !Pattern.compile("\\b(double|float|String|StringBuilder|ArrayList|List)\\b").matcher(code()).find());
    }

    /** Methods of one name count as one: what is found is at least as deep as what can stand open. */
    private static void depth() throws IOException {
        Due.part("how deep calls go");
        String code = code();
        Map<String, StringBuilder> bodies = new TreeMap<>();
        Matcher method = Pattern.compile("(?m)^( +)[\\w\\[\\] ]*\\b(\\w+)\\([^;=]*\\) \\{$").matcher(code);
        while (method.find()) {
            if (Set.of("for", "if", "while", "switch").contains(method.group(2))) continue;
            int end = code.indexOf("\n" + method.group(1) + "}", method.end());
            bodies.computeIfAbsent(method.group(2), name -> new StringBuilder()).append(code, method.end(), end);
        }
        for (String name : bodies.keySet()) {
            int deep = deep(name, bodies, new ArrayList<>());
            check(name + " goes " + deep + " deep", deep <= 8);
        }
        check("methods were found: " + bodies.size(), bodies.size() > FACE.length);
    }

    private static int deep(String name, Map<String, StringBuilder> bodies, List<String> open) {
        if (open.contains(name)) {
            Due.tell(name + " calls itself by " + open);
            return 0;
        }
        open.add(name);
        int deepest = 0;
        Matcher called = Pattern.compile("\\b(\\w+)\\(").matcher(bodies.get(name));
        while (called.find()) {
            if (bodies.containsKey(called.group(1))) deepest = Math.max(deepest, deep(called.group(1), bodies, open));
        }
        open.remove(name);
        return deepest + 1;
    }

    /** The dearest calls, again and again, make no objects at all. */
    private static void makesNothing() {
        Due.part("what calls make");
        OtherwiseBook x = new OtherwiseBook();
        Due.rule(x, 0, "b2 s5:3 a1:2 c1", 4);
        StringBuilder signs = new StringBuilder("n24");
        for (int d = 0; d < 24; d++) signs.append("d").append(d).append(":").append(d % 3);
        Due.page(x, 0, signs.toString(), 24);
        x.days(0, 0, 0);
        for (int i = 0; i < 8; i++) x.know(i, 3);
        com.sun.management.ThreadMXBean counter = (com.sun.management.ThreadMXBean) ManagementFactory.getThreadMXBean();
        dearest(x);
        long before = counter.getCurrentThreadAllocatedBytes();
        for (int i = 0; i < 20; i++) dearest(x);
        long made = counter.getCurrentThreadAllocatedBytes() - before;
        check("calls made " + made + " bytes", made < 100000);
    }

    private static void dearest(OtherwiseBook x) {
        x.fewest(0, 2);
        x.many(0, 2);
        x.rules(0, 2);
        x.left(0, 2);
        x.ask(0, 2);
        x.suspects(0, 0);
        x.worlds(0, 0, 8, 15, 3);
        x.open(0, 0);
        x.read();
        x.keep(1);
        x.on(1);
        x.write(0, 0, 1);
        x.fault(1, true);
        x.digest();
    }
}
