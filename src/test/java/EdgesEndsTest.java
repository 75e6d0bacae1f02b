import java.lang.reflect.InvocationTargetException;
import java.lang.reflect.Method;
import java.util.function.Supplier;

/**
 * Every call with arguments at the ends of what an int can be, and beside the document's bounds, in all
 * mixtures, on an empty object, on one that is filled, and on one that is full: no call throws, and what is
 * refused changes nothing but finding() and findings().
 */
public final class EdgesEndsTest {
    private static final int LOW = Integer.MIN_VALUE, HIGH = Integer.MAX_VALUE;
    private static final int[] MANY = {LOW, -1, 0, 1, 2, 3, 4, 6, 7, 8, 23, 24, 60, 120, 3540, HIGH};
    private static final int[] SOME = {LOW, -1, 0, 1, 3, 6, 24, HIGH};
    private static final int[] FEW = {LOW, -1, 0, 2, 6, HIGH};

    /** Each call that is tried needs five: none goes behind the 512 for which an object is used. */
    private static final int MOST_TRIED = 70;

    private static OtherwiseBook book = null;
    private static int calls = 0;
    private static long[] before = null;

    public static void main(String[] args) throws Exception {
        each("an empty object", OtherwiseBook::new);
        each("a filled object", EdgesEndsTest::filled);
        each("a full object", EdgesEndsTest::full);
        Due.end();
    }

    private static OtherwiseBook filled() {
        OtherwiseBook x = new OtherwiseBook();
        text(x, 0, "b2 s3:1 y");
        x.rule(0, 0);
        text(x, 1, "n7 d1:2 d4:3");
        x.page(0, 1);
        x.numbered(2, 3539);
        x.days(0, 0, 0);
        x.row(2, 3);
        x.lay(2, 1, HIGH);
        x.know(3, 1);
        x.open(0, 0);
        x.read();
        x.keep(1);
        return x;
    }

    private static OtherwiseBook full() {
        OtherwiseBook x = new OtherwiseBook();
        text(x, 0, "a0:1 a1:2 a2:3 a3:0");
        text(x, 1, "n24 d0:3 d23:0");
        for (int k = 0; k < 4; k++) {
            x.rule(k, 0);
            x.page(k, 1);
        }
        for (int t = 2; t < 4; t++) {
            x.text(t, 120);
            x.put(t, 119, 128);
        }
        for (int r = 0; r < 3; r++) x.days(r, r, r);
        for (int r = 3; r < 6; r++) {
            x.row(r, 60);
            x.lay(r, 0, LOW);
            x.lay(r, 59, HIGH);
        }
        for (int i = 0; i < 8; i++) x.know(23 - i, i % 4);
        x.open(0, 0);
        for (int d = 0; d < 24; d++) x.read();
        for (int k = 0; k < 3; k++) x.keep(k);
        return x;
    }

    private static void text(OtherwiseBook x, int t, String signs) {
        x.text(t, signs.length());
        for (int i = 0; i < signs.length(); i++) x.put(t, i, signs.charAt(i));
    }

    private static void each(String part, Supplier<OtherwiseBook> maker) throws Exception {
        Due.part("1 .. 48 on " + part);
        for (Method method : OtherwiseBook.class.getMethods()) {
            if (method.getDeclaringClass() != OtherwiseBook.class) continue;
            int places = method.getParameterCount();
            int[] values = places <= 3 ? MANY : places <= 4 ? SOME : FEW;
            int mixtures = 1;
            for (int i = 0; i < places; i++) mixtures *= values.length;
            book = null;
            for (int mixture = 0; mixture < mixtures; mixture++) call(method, values, mixture, maker);
        }
    }

    private static void call(Method method, int[] values, int mixture, Supplier<OtherwiseBook> maker) throws Exception {
        if (book == null || calls > MOST_TRIED) {
            book = maker.get();
            calls = 0;
            before = state();
        }
        calls++;
        Object[] given = new Object[method.getParameterCount()];
        StringBuilder told = new StringBuilder(method.getName());
        int rest = mixture;
        for (int i = 0; i < given.length; i++) {
            int value = values[rest % values.length];
            rest /= values.length;
            given[i] = method.getParameterTypes()[i] == boolean.class ? (Object) (value > 0) : (Object) value;
            told.append(' ').append(given[i]);
        }
        try {
            long answer = ((Number) method.invoke(book, given)).longValue();
            boolean refused = method.getReturnType() == int.class && answer >= -6 && answer <= -1
                    && !method.getName().equals("asked");
            if (!refused) book = null;
            else unchanged(told.toString(), answer);
        } catch (InvocationTargetException thrown) {
            Due.tell(told + " threw " + thrown.getCause());
            book = null;
        }
    }

    private static long[] state() {
        return new long[] {book.digest(), book.asked(), book.upper(), book.lower()};
    }

    private static void unchanged(String told, long answer) {
        long[] after = state();
        for (int i = 0; i < after.length; i++) Due.same("state " + i + " behind " + told, after[i], before[i]);
        if (answer == -5) Due.tell(told + " answered -5, which is no answer");
    }
}
