import java.lang.reflect.InvocationTargetException;
import java.lang.reflect.Method;
import java.util.ArrayList;
import java.util.HashMap;
import java.util.List;
import java.util.Map;

/**
 * A book beside a plain picture of what it must hold. Behind each call all that tells is looked at:
 * finding(), findings(), asked(), upper(), lower(), digest(). A test paints in the picture what a
 * call is to change, then makes the call; what it doesn't paint must stay. No book is used for more
 * than the 512 calls for which the document promises anything.
 */
final class Witness {
    static final int BAD = -1, FULL = -2, FINDING = -3, STATE = -4, SPENT = -6, NONE = -9;
    static final int NOTHING = 1, BEYOND = 2, UNLIKE = 3, NOUGHT = 4, SIZE = 5;
    static final int LOW = Integer.MIN_VALUE, HIGH = Integer.MAX_VALUE;
    static final List<String> CLAUSES = clauses();
    private static final int MOST_CALLS = 512;
    private static final Map<String, Method> FACE = face();

    final int[][] rows = new int[6][];
    final byte[][] texts = new byte[4][];
    /** NUMBERS of CLAUSES */
    final int[][] rules = new int[4][];
    /** how many DAYS, then day and WEATHER of each LINE */
    final int[][] pages = new int[4][];
    final List<int[]> known = new ArrayList<>();
    /** the WEATHERS read */
    int[] read = null;

    private final OtherwiseBook book = new OtherwiseBook();
    private final int[] findings = new int[6];
    private int finding = 0;
    private int asked = 0;
    private long upper = 0;
    private long lower = 1;
    private int calls = 0;

    /** @param part the promise and what of it is tested */
    Witness(String part) {
        Due.part(part);
    }

    private static Map<String, Method> face() {
        Map<String, Method> face = new HashMap<>();
        for (Method m : OtherwiseBook.class.getMethods()) {
            if (m.getDeclaringClass() == OtherwiseBook.class) face.put(m.getName(), m);
        }
        return face;
    }

    /** The CLAUSES by their NUMBERS. */
    private static List<String> clauses() {
        List<String> all = new ArrayList<>();
        for (int v = 0; v < 4; v++) all.add("c" + v);
        all.add("y");
        for (int k = 2; k <= 7; k++) all.add("b" + k);
        for (int k = 2; k <= 9; k++) for (int v = 0; v < 4; v++) all.add("s" + k + ":" + v);
        for (int u = 0; u < 4; u++) for (int v = 0; v < 4; v++) all.add("a" + u + ":" + v);
        return all;
    }

    // ---- calls that are looked at

    /** The call answers so, and changes nothing but what has been painted. */
    void is(long want, String name, int... a) {
        String told = told(name, a);
        Due.same(told, call(name, a), want);
        look(told);
    }

    /** The call answers so, and asked() tells what it told. */
    void tells(long want, int toldByAsked, String name, int... a) {
        asked = toldByAsked;
        is(want, name, a);
    }

    void fraction(long want, long upperNumber, long lowerNumber, String name, int... a) {
        upper = upperNumber;
        lower = lowerNumber;
        is(want, name, a);
    }

    /** Refused without a FINDING: not even finding() changes. */
    void refuses(int want, String name, int... a) {
        is(want, name, a);
    }

    void finds(int which, String name, int... a) {
        finding = which;
        findings[which]++;
        is(FINDING, name, a);
    }

    /** Refused, each alone, with one argument being each of some values. */
    void refusesEach(int want, int place, int[] values, String name, int... a) {
        for (int v : values) refuses(want, name, with(a, place, v));
    }

    void findsEach(int which, int place, int[] values, String name, int... a) {
        for (int v : values) finds(which, name, with(a, place, v));
    }

    static int[] with(int[] a, int place, int v) {
        int[] changed = a.clone();
        changed[place] = v;
        return changed;
    }

    static int[] these(int... values) {
        return values;
    }

    void look(String behind) {
        Due.same("finding() behind " + behind, call("finding"), finding);
        for (int f = 1; f <= 5; f++) {
            Due.same("findings(" + f + ") behind " + behind, call("findings", f), findings[f]);
        }
        Due.same("asked() behind " + behind, call("asked"), asked);
        Due.same("upper() behind " + behind, call("upper"), upper);
        Due.same("lower() behind " + behind, call("lower"), lower);
        Due.same("digest() behind " + behind, call("digest"), digest());
    }

    // ---- calls that lay what a test needs; of these the answers alone are looked at

    Witness row(int r, int... ints) {
        rows[r] = ints.clone();
        quick(ints.length, "row", r, ints.length);
        for (int i = 0; i < ints.length; i++) {
            if (ints[i] != 0) {
                asked = 0;
                quick(1, "lay", r, i, ints[i]);
            }
        }
        return this;
    }

    /** A ROW of n ints, all of them v. */
    Witness alike(int r, int n, int v) {
        return row(r, all(n, v));
    }

    static int[] all(int n, int v) {
        int[] ints = new int[n];
        for (int i = 0; i < n; i++) ints[i] = v;
        return ints;
    }

    Witness text(int t, String signs) {
        texts[t] = new byte[signs.length()];
        quick(signs.length(), "text", t, signs.length());
        for (int i = 0; i < signs.length(); i++) {
            texts[t][i] = (byte) signs.charAt(i);
            if (signs.charAt(i) != ' ') quick(1032, "put", t, i, signs.charAt(i));
        }
        return this;
    }

    /** A RULE by TEXT 0; the signs have no FAULT. */
    Witness rule(int k, String signs) {
        text(0, signs);
        rules[k] = numbers(signs);
        quick(rules[k].length, "rule", k, 0);
        return this;
    }

    static int[] numbers(String signs) {
        List<String> items = items(signs, "[cybsa]");
        int[] numbers = new int[items.size()];
        for (int i = 0; i < numbers.length; i++) numbers[i] = CLAUSES.indexOf(items.get(i));
        return numbers;
    }

    /** A PAGE by TEXT 1; the signs have no FAULT. */
    Witness page(int k, String signs) {
        text(1, signs);
        pages[k] = lines(signs);
        quick(pages[k].length / 2, "page", k, 1);
        return this;
    }

    static int[] lines(String signs) {
        List<String> items = items(signs, "[nd]");
        int[] lines = new int[2 * items.size() - 1];
        lines[0] = Integer.parseInt(items.get(0).substring(1));
        for (int i = 1; i < items.size(); i++) {
            String[] parts = items.get(i).substring(1).split(":");
            lines[2 * i - 1] = Integer.parseInt(parts[0]);
            lines[2 * i] = Integer.parseInt(parts[1]);
        }
        return lines;
    }

    private static List<String> items(String signs, String letters) {
        List<String> items = new ArrayList<>();
        for (String item : signs.replace(" ", "").split("(?=" + letters + ")")) {
            if (!item.isEmpty()) items.add(item);
        }
        return items;
    }

    Witness numbered(int k, int number) {
        rules[k] = Plain.rule(number);
        quick(rules[k].length, "numbered", k, number);
        return this;
    }

    Witness know(int d, int v) {
        known.add(these(d, v));
        quick(known.size() - 1, "know", d, v);
        return this;
    }

    Witness forget(int n) {
        int went = known.size() - n;
        known.subList(n, known.size()).clear();
        quick(went, "forget", n);
        return this;
    }

    /** A READING is begun, and some days are read: these WEATHERS. */
    Witness reading(int rule, int page, int... weathers) {
        quick(pages[page][0], "open", rule, page);
        read = weathers.clone();
        for (int v : weathers) quick(v, "read");
        if (weathers.length > 0) asked = (int) call("asked");
        return this;
    }

    /** A call of which the answer alone is looked at. */
    void quick(long want, String name, int... a) {
        Due.same(told(name, a), call(name, a), want);
    }

    int calls() {
        return calls;
    }

    // ---- the picture

    private static String told(String name, int... a) {
        StringBuilder told = new StringBuilder(name).append('(');
        for (int i = 0; i < a.length; i++) {
            if (i > 0) told.append(", ");
            if (a[i] == LOW) told.append("LOW");
            else if (a[i] == HIGH) told.append("HIGH");
            else told.append(a[i]);
        }
        return told.append(')').toString();
    }

    private long call(String name, int... a) {
        if (calls == MOST_CALLS) Due.tell("the test uses an object for more than " + MOST_CALLS + " calls");
        calls++;
        Method method = FACE.get(name);
        Object[] given = new Object[a.length];
        for (int i = 0; i < a.length; i++) {
            given[i] = method.getParameterTypes()[i] == boolean.class ? (Object) (a[i] != 0) : (Object) a[i];
        }
        try {
            return ((Number) method.invoke(book, given)).longValue();
        } catch (InvocationTargetException thrown) {
            Due.tell(told(name, a) + " threw " + thrown.getCause());
            return Long.MIN_VALUE;
        } catch (IllegalAccessException wrong) {
            throw new IllegalStateException(wrong);
        }
    }

    private static int there(Object[] all) {
        int there = 0;
        for (Object one : all) if (one != null) there++;
        return there;
    }

    private int clausesOf(String letters) {
        int such = 0;
        for (int[] rule : rules) {
            if (rule == null) continue;
            for (int number : rule) if (letters.indexOf(CLAUSES.get(number).charAt(0)) >= 0) such++;
        }
        return such;
    }

    private long digest() {
        long[] h = {17};
        fold(h, there(rules), there(pages), clausesOf("cybsa"), clausesOf("csa"), known.size(),
                read == null ? 0 : read.length, there(rows), there(texts));
        for (int[] rule : rules) fold(h, rule == null ? these(-1) : rule);
        for (int[] page : pages) fold(h, page == null ? these(-1) : page);
        for (int[] thing : known) fold(h, thing);
        fold(h, read == null ? these(-1) : read);
        for (int[] row : rows) {
            fold(h, row == null ? -1 : row.length);
            if (row != null) fold(h, row);
        }
        for (byte[] text : texts) {
            fold(h, text == null ? -1 : text.length);
            if (text != null) for (byte b : text) fold(h, b);
        }
        return h[0];
    }

    private static void fold(long[] h, int... all) {
        for (int v : all) h[0] = 31 * h[0] + v;
    }
}
