/** Each promise of the document by its number: ordinary inputs, the edges it names, wrong inputs. */
public final class PromisesTest {
    private static final int BAD = OtherwiseBook.BAD, FULL = OtherwiseBook.FULL, FINDING = OtherwiseBook.FINDING;
    private static final int STATE = OtherwiseBook.STATE, SPENT = OtherwiseBook.SPENT, NONE = OtherwiseBook.NONE;
    private static final int NOTHING = 1, BEYOND = 2, UNLIKE = 3, NOUGHT = 4, SIZE = 5;
    private static final int LOW = Integer.MIN_VALUE, HIGH = Integer.MAX_VALUE;

    public static void main(String[] args) {
        newObject();
        row();
        layAndAt();
        tear();
        copy();
        mean();
        text();
        put();
        faultOfRule();
        faultOfPage();
        rule();
        numbered();
        page();
        clause();
        mark();
        line();
        expects();
        days();
        write();
        fewestAndMany();
        openAndRead();
        keepAndOn();
        worlds();
        sure();
        can();
        rules();
        agree();
        ask();
        likely();
        left();
        changedAndWhen();
        joined();
        follows();
        knowAndForget();
        forbids();
        suspects();
        asked();
        fractions();
        count();
        findings();
        digest();
        Due.end();
    }

    private static OtherwiseBook book(String part) {
        Due.part(part);
        return new OtherwiseBook();
    }

    /** Rule 0 'y', rule 1 'c1', rule 2 without clauses; page 0 of 6 days with lines on 1 and 4. */
    private static OtherwiseBook chronicle(String part) {
        OtherwiseBook x = book(part);
        Due.rule(x, 0, "y", 1);
        Due.rule(x, 1, "c1", 1);
        Due.rule(x, 2, "", 0);
        Due.page(x, 0, "n6 d1:2 d4:3", 2);
        return x;
    }

    private static void newObject() {
        OtherwiseBook x = book("1 a new object");
        for (int what = 0; what < 8; what++) Due.same("count(" + what + ")", x.count(what), 0);
        Due.same("asked()", x.asked(), 0);
        Due.same("upper()", x.upper(), 0);
        Due.same("lower()", x.lower(), 1);
        Due.same("finding()", x.finding(), 0);
        for (int f = 1; f <= 5; f++) Due.same("findings(" + f + ")", x.findings(f), 0);
        for (int r = 0; r < 6; r++) Due.same("at(" + r + ", 0)", x.at(r, 0), FINDING);
        for (int t = 0; t < 4; t++) Due.same("fault(" + t + ")", x.fault(t, false), FINDING);
        for (int k = 0; k < 4; k++) Due.same("clause(" + k + ", 0)", x.clause(k, 0), FINDING);
        for (int k = 0; k < 4; k++) Due.same("line(" + k + ", 0)", x.line(k, 0), FINDING);
        Due.same("findings(1)", x.findings(NOTHING), 18);
        Due.refused(x, "read()", x::read, STATE);
        for (int k = 0; k < 3; k++) {
            int place = k;
            Due.found(x, "on(" + k + ")", () -> x.on(place), NOTHING);
        }
        OtherwiseBook other = new OtherwiseBook();
        other.know(0, 0);
        Due.same("count(4): objects share nothing", x.count(4), 0);
    }

    private static void row() {
        OtherwiseBook x = book("2 row");
        Due.same("row(0, 0)", x.row(0, 0), 0);
        Due.same("row(5, 60)", x.row(5, 60), 60);
        Due.same("lay(5, 59, 7)", x.lay(5, 59, 7), 1);
        Due.same("row(5, 60)", x.row(5, 60), 60);
        Due.asked(x, "at(5, 59)", x.at(5, 59), 1, 0);
        Due.same("count(6)", x.count(6), 2);
        Due.refused(x, "row(6, 1)", () -> x.row(6, 1), BAD);
        Due.refused(x, "row(-1, 1)", () -> x.row(-1, 1), BAD);
        Due.refused(x, "row(5, 61)", () -> x.row(5, 61), BAD);
        Due.refused(x, "row(6, -1): BAD goes first", () -> x.row(6, -1), BAD);
        Due.refused(x, "row(5, HIGH)", () -> x.row(5, HIGH), BAD);
        Due.found(x, "row(5, -1)", () -> x.row(5, -1), SIZE);
        Due.found(x, "row(5, LOW)", () -> x.row(5, LOW), SIZE);
        Due.same("row(5, 3)", x.row(5, 3), 3);
        Due.isRow(x, 5, 0, 0, 0);
    }

    private static void layAndAt() {
        OtherwiseBook x = book("3 lay, 4 at");
        Due.row(x, 1, 4, 5, 6);
        Due.asked(x, "lay(1, 2, -8)", x.lay(1, 2, -8), 1, 6);
        Due.asked(x, "lay(1, 2, HIGH)", x.lay(1, 2, HIGH), 1, -8);
        Due.asked(x, "lay(1, 0, LOW)", x.lay(1, 0, LOW), 1, 4);
        Due.isRow(x, 1, LOW, 5, HIGH);
        Due.refused(x, "lay(6, 0, 1)", () -> x.lay(6, 0, 1), BAD);
        Due.refused(x, "lay(-1, 0, 1)", () -> x.lay(-1, 0, 1), BAD);
        Due.found(x, "lay(0, 0, 1)", () -> x.lay(0, 0, 1), NOTHING);
        Due.found(x, "lay(1, 3, 1)", () -> x.lay(1, 3, 1), BEYOND);
        Due.found(x, "lay(1, -1, 1)", () -> x.lay(1, -1, 1), BEYOND);
        Due.found(x, "lay(1, LOW, 1)", () -> x.lay(1, LOW, 1), BEYOND);
        Due.refused(x, "at(6, 0)", () -> x.at(6, 0), BAD);
        Due.refused(x, "at(LOW, 0)", () -> x.at(LOW, 0), BAD);
        Due.found(x, "at(0, 99)", () -> x.at(0, 99), NOTHING);
        Due.found(x, "at(1, 3)", () -> x.at(1, 3), BEYOND);
        Due.found(x, "at(1, -1)", () -> x.at(1, -1), BEYOND);
        Due.found(x, "at(1, HIGH)", () -> x.at(1, HIGH), BEYOND);
    }

    private static void tear() {
        OtherwiseBook x = book("5 tear");
        Due.row(x, 3, 1, 2);
        Due.refused(x, "tear(6)", () -> x.tear(6), BAD);
        Due.refused(x, "tear(-1)", () -> x.tear(-1), BAD);
        Due.found(x, "tear(2)", () -> x.tear(2), NOTHING);
        Due.same("tear(3)", x.tear(3), 1);
        Due.same("count(6)", x.count(6), 0);
        Due.found(x, "tear(3)", () -> x.tear(3), NOTHING);
        Due.found(x, "at(3, 0)", () -> x.at(3, 0), NOTHING);
        Due.same("row(3, 2)", x.row(3, 2), 2);
        Due.isRow(x, 3, 0, 0);
    }

    private static void copy() {
        OtherwiseBook x = book("6 copy");
        Due.row(x, 0, 1, 2, 3, 4, 5);
        Due.row(x, 1, 9, 9, 9);
        int told = x.asked();
        Due.same("copy(0, 3, 1, 1, 2)", x.copy(0, 3, 1, 1, 2), 1);
        Due.same("asked(): copy tells nothing by it", x.asked(), told);
        Due.isRow(x, 1, 9, 4, 5);
        Due.same("copy(0, 0, 0, 1, 4)", x.copy(0, 0, 0, 1, 4), 1);
        Due.isRow(x, 0, 1, 1, 2, 3, 4);
        Due.same("copy(0, 1, 0, 0, 4)", x.copy(0, 1, 0, 0, 4), 1);
        Due.isRow(x, 0, 1, 2, 3, 4, 4);
        Due.same("copy(0, 5, 1, 3, 0): none, from the end", x.copy(0, 5, 1, 3, 0), 1);
        Due.refused(x, "copy(6, 0, 0, 0, 0)", () -> x.copy(6, 0, 0, 0, 0), BAD);
        Due.refused(x, "copy(0, 0, -1, 0, 0)", () -> x.copy(0, 0, -1, 0, 0), BAD);
        Due.refused(x, "copy(0, 0, 6, 0, -1)", () -> x.copy(0, 0, 6, 0, -1), BAD);
        Due.found(x, "copy(5, 0, 4, 0, -1): SIZE goes first", () -> x.copy(5, 0, 4, 0, -1), SIZE);
        Due.found(x, "copy(5, 0, 0, 0, 99)", () -> x.copy(5, 0, 0, 0, 99), NOTHING);
        Due.found(x, "copy(0, 0, 5, 0, 99)", () -> x.copy(0, 0, 5, 0, 99), NOTHING);
        Due.found(x, "copy(0, 2, 1, 0, 4)", () -> x.copy(0, 2, 1, 0, 4), BEYOND);
        Due.found(x, "copy(0, 0, 1, 1, 3)", () -> x.copy(0, 0, 1, 1, 3), BEYOND);
        Due.found(x, "copy(0, -1, 1, 0, 1)", () -> x.copy(0, -1, 1, 0, 1), BEYOND);
        Due.found(x, "copy(0, 0, 1, -1, 1)", () -> x.copy(0, 0, 1, -1, 1), BEYOND);
        Due.found(x, "copy(0, 6, 1, 0, 0)", () -> x.copy(0, 6, 1, 0, 0), BEYOND);
        Due.found(x, "copy(0, HIGH, 1, 0, HIGH)", () -> x.copy(0, HIGH, 1, 0, HIGH), BEYOND);
        Due.found(x, "copy(0, 0, 1, HIGH, 1)", () -> x.copy(0, 0, 1, HIGH, 1), BEYOND);
    }

    private static void mean() {
        OtherwiseBook x = book("7 mean");
        Due.row(x, 0, 1, 2, 5);
        Due.asked(x, "mean(0)", x.mean(0), 1, 2);
        Due.row(x, 0, -1, -2, -5);
        Due.asked(x, "mean(0): cut, not floored", x.mean(0), 1, -2);
        Due.row(x, 0, HIGH, HIGH, HIGH);
        Due.asked(x, "mean(0): the sum is above ints", x.mean(0), 1, HIGH);
        Due.row(x, 0, LOW, LOW);
        Due.asked(x, "mean(0)", x.mean(0), 1, LOW);
        Due.refused(x, "mean(6)", () -> x.mean(6), BAD);
        Due.refused(x, "mean(-1)", () -> x.mean(-1), BAD);
        Due.found(x, "mean(1)", () -> x.mean(1), NOTHING);
        x.row(1, 0);
        Due.found(x, "mean(1)", () -> x.mean(1), NOUGHT);
    }

    private static void text() {
        OtherwiseBook x = book("8 text");
        Due.same("text(0, 0)", x.text(0, 0), 0);
        Due.same("text(3, 120)", x.text(3, 120), 120);
        Due.same("put(3, 119, 65)", x.put(3, 119, 65), 1032);
        Due.same("text(3, 120)", x.text(3, 120), 120);
        Due.same("put(3, 119, 65)", x.put(3, 119, 65), 1032);
        Due.same("count(7)", x.count(7), 2);
        Due.refused(x, "text(4, 1)", () -> x.text(4, 1), BAD);
        Due.refused(x, "text(-1, 1)", () -> x.text(-1, 1), BAD);
        Due.refused(x, "text(0, 121)", () -> x.text(0, 121), BAD);
        Due.refused(x, "text(4, -1)", () -> x.text(4, -1), BAD);
        Due.found(x, "text(0, -1)", () -> x.text(0, -1), SIZE);
        Due.found(x, "text(0, LOW)", () -> x.text(0, LOW), SIZE);
    }

    private static void put() {
        OtherwiseBook x = book("9 put");
        x.text(2, 2);
        Due.same("put(2, 1, 127)", x.put(2, 1, 127), 1032);
        Due.same("put(2, 1, 128)", x.put(2, 1, 128), 1127);
        Due.same("put(2, 1, 255)", x.put(2, 1, 255), 872);
        Due.same("put(2, 1, 256 + 48)", x.put(2, 1, 256 + 48), 999);
        Due.same("put(2, 1, -256)", x.put(2, 1, -256), 1048);
        Due.same("put(2, 1, 0)", x.put(2, 1, 0), 1000);
        Due.refused(x, "put(4, 0, 0)", () -> x.put(4, 0, 0), BAD);
        Due.refused(x, "put(-1, 0, 0)", () -> x.put(-1, 0, 0), BAD);
        Due.found(x, "put(0, 0, 0)", () -> x.put(0, 0, 0), NOTHING);
        Due.found(x, "put(2, 2, 0)", () -> x.put(2, 2, 0), BEYOND);
        Due.found(x, "put(2, -1, 0)", () -> x.put(2, -1, 0), BEYOND);
    }

    private static void fault(String signs, boolean page, int want) {
        OtherwiseBook x = new OtherwiseBook();
        Due.text(x, 3, signs);
        long before = x.digest();
        Due.same("fault of '" + signs + "'", x.fault(3, page), want);
        Due.same("digest() behind fault", x.digest(), before);
        Due.same("asked() behind fault", x.asked(), 0);
        boolean refused = (page ? x.page(0, 3) : x.rule(0, 3)) == STATE;
        Due.same("refusing '" + signs + "'", refused ? 1 : 0, want != NONE ? 1 : 0);
    }

    private static void faultOfRule() {
        Due.part("10 fault of a rule");
        String[] sound = {"", "   ", "y", "c0", "c3", "b2", "b7", "s2:0", "s9:3", "a0:3", "a3:0",
            "  yyyy  ", "c1c2c3c0", " b2 s3:1   a1:2y "};
        for (String signs : sound) fault(signs, false, NONE);
        fault("c", false, 1);
        fault("c ", false, 1);
        fault("c4", false, 1);
        fault("b1", false, 1);
        fault("b8", false, 1);
        fault("s1:0", false, 1);
        fault("s:0", false, 1);
        fault("s2", false, 2);
        fault("s2 :0", false, 2);
        fault("s2:", false, 3);
        fault("s2:4", false, 3);
        fault("s2: 1", false, 3);
        fault("a4:0", false, 1);
        fault("a0;0", false, 2);
        fault("a0:9", false, 3);
        fault("a", false, 1);
        fault("c12", false, 2);
        fault("x", false, 0);
        fault("  Y", false, 2);
        fault("yyyyy", false, 4);
        fault("y y y y  c9", false, 9);
        fault("yyyyx", false, 4);
        fault("c" + (char) 305, false, NONE); // 305 is 49 and 256: cut to a byte
        fault("n6", false, 0);
        OtherwiseBook x = book("10 fault");
        x.text(0, 1);
        Due.same("put(0, 0, 0)", x.put(0, 0, 0), 1032);
        Due.same("fault(0, false): byte 0 is no blank", x.fault(0, false), 0);
        x.put(0, 0, -9);
        Due.same("fault(0, false): byte -9 is no end", x.fault(0, false), 0);
        x.text(1, 1);
        x.put(1, 0, -9);
        Due.same("fault(1, true)", x.fault(1, true), 0);
        Due.refused(x, "fault(4, false)", () -> x.fault(4, false), BAD);
        Due.refused(x, "fault(-1, true)", () -> x.fault(-1, true), BAD);
        Due.found(x, "fault(2, false)", () -> x.fault(2, false), NOTHING);
        Due.found(x, "fault(3, true)", () -> x.fault(3, true), NOTHING);
    }

    private static void faultOfPage() {
        Due.part("10 fault of a page");
        String[] sound = {"n1", "n24", "n01", " n9  ", "n3d0:0d1:3d2:1", "n24d23:0", "n24 d9:1 d10:2", "n5d00:1d04:2"};
        for (String signs : sound) fault(signs, true, NONE);
        fault("", true, 0);
        fault("   ", true, 3);
        fault("n", true, 1);
        fault("n ", true, 1);
        fault("n 3", true, 1);
        fault("nx", true, 1);
        fault("n0", true, 2);
        fault("n00", true, 3);
        fault("n25", true, 3);
        fault("n99 d1:1", true, 3);
        fault("n100", true, 3);
        fault("n123", true, 3);
        fault("d0:1", true, 0);
        fault("  d0:1 n3", true, 2);
        fault("n3 n3", true, 3);
        fault("n3 d0:1 n4", true, 8);
        fault("n3 y", true, 3);
        fault("n3d", true, 3);
        fault("n3 d3:1", true, 5);
        fault("n3 d3", true, 5);
        fault("n3 d12:1", true, 6);
        fault("n3 d2:1 d2:1", true, 10);
        fault("n3 d2:1 d1:1", true, 10);
        fault("n3 d01:1 d1:1", true, 11);
        fault("n3 d1", true, 5);
        fault("n3 d1 :1", true, 5);
        fault("n3 d 1:1", true, 4);
        fault("n3 d1:", true, 6);
        fault("n3 d1: 1", true, 6);
        fault("n3 d1:4", true, 6);
        fault("n3 d1:11", true, 7);
        fault("n24 d111:1", true, 7);
        StringBuilder all = new StringBuilder("n24");
        for (int d = 0; d < 24; d++) all.append("d").append(d).append(":1");
        fault(all.toString(), true, NONE);
        fault(all + "d23:1", true, all.length() + 3);
        fault(all + "x", true, all.length());
    }

    private static void rule() {
        OtherwiseBook x = book("11 rule");
        Due.rule(x, 3, " a1:2 y", 2);
        Due.same("clause(3, 0)", x.clause(3, 0), 49);
        Due.rule(x, 3, "b4", 1);
        Due.same("clause(3, 0)", x.clause(3, 0), 7);
        Due.found(x, "clause(3, 1): anew", () -> x.clause(3, 1), BEYOND);
        Due.rule(x, 3, "", 0);
        Due.same("count(0): a rule without clauses is there", x.count(0), 1);
        Due.rule(x, 3, "c0 c1 c2 c3", 4);
        Due.text(x, 1, "y y x");
        Due.refused(x, "rule(3, 1)", () -> x.rule(3, 1), STATE);
        Due.found(x, "rule(3, 2)", () -> x.rule(3, 2), NOTHING);
        Due.refused(x, "rule(4, 1)", () -> x.rule(4, 1), BAD);
        Due.refused(x, "rule(-1, 2)", () -> x.rule(-1, 2), BAD);
        Due.refused(x, "rule(0, 4)", () -> x.rule(0, 4), BAD);
        Due.refused(x, "rule(0, -1)", () -> x.rule(0, -1), BAD);
        x.put(0, 0, 'x');
        Due.same("clause(3, 3): the text may change behind", x.clause(3, 3), 3);
    }

    private static void numbered() {
        for (int number = 0; number < 59; number++) {
            OtherwiseBook one = book("12 numbered");
            Due.same("numbered(0, " + number + ")", one.numbered(0, number), 1);
            Due.same("clause(0, 0)", one.clause(0, 0), number);
        }
        for (int number = 59; number < 3540; number++) {
            OtherwiseBook two = book("12 numbered");
            Due.same("numbered(1, " + number + ")", two.numbered(1, number), 2);
            Due.same("the number", 59 + 59 * two.clause(1, 0) + two.clause(1, 1), number);
        }
        OtherwiseBook x = book("12 numbered");
        Due.same("numbered(1, 0)", x.numbered(1, 0), 1);
        Due.found(x, "clause(1, 1)", () -> x.clause(1, 1), BEYOND);
        Due.refused(x, "numbered(1, 3540)", () -> x.numbered(1, 3540), BAD);
        Due.refused(x, "numbered(1, -1)", () -> x.numbered(1, -1), BAD);
        Due.refused(x, "numbered(4, 0)", () -> x.numbered(4, 0), BAD);
        Due.refused(x, "numbered(-1, 0)", () -> x.numbered(-1, 0), BAD);
    }

    private static void page() {
        OtherwiseBook x = book("13 page");
        Due.page(x, 2, " n24 d0:3 d09:1 d23:0", 3);
        Due.isPage(x, 2, 0, 3, 9, 1, 23, 0);
        Due.page(x, 2, "n2", 0);
        Due.isPage(x, 2);
        Due.same("count(1)", x.count(1), 1);
        Due.text(x, 0, "n2 d2:1");
        Due.refused(x, "page(2, 0)", () -> x.page(2, 0), STATE);
        Due.refused(x, "page(4, 0)", () -> x.page(4, 0), BAD);
        Due.refused(x, "page(-1, 0)", () -> x.page(-1, 0), BAD);
        Due.refused(x, "page(0, 4)", () -> x.page(0, 4), BAD);
        Due.refused(x, "page(0, -1)", () -> x.page(0, -1), BAD);
        Due.found(x, "page(2, 3)", () -> x.page(2, 3), NOTHING);
    }

    private static void clause() {
        OtherwiseBook x = book("14 clause");
        String[] signs = {"c0", "c3", "y", "b2", "b7", "s2:0", "s2:3", "s9:0", "s9:3", "a0:0", "a0:3", "a3:0", "a3:3"};
        int[] numbers = {0, 3, 4, 5, 10, 11, 14, 39, 42, 43, 46, 55, 58};
        int[] kinds = {1, 1, 5, 2, 2, 3, 3, 3, 3, 4, 4, 4, 4};
        for (int i = 0; i < signs.length; i++) {
            Due.rule(x, 0, "y " + signs[i], 2);
            Due.asked(x, "clause of " + signs[i], x.clause(0, 1), numbers[i], kinds[i]);
        }
        Due.refused(x, "clause(4, 0)", () -> x.clause(4, 0), BAD);
        Due.refused(x, "clause(-1, 0)", () -> x.clause(-1, 0), BAD);
        Due.found(x, "clause(1, 0)", () -> x.clause(1, 0), NOTHING);
        Due.found(x, "clause(0, 2)", () -> x.clause(0, 2), BEYOND);
        Due.found(x, "clause(0, -1)", () -> x.clause(0, -1), BEYOND);
        Due.found(x, "clause(0, LOW)", () -> x.clause(0, LOW), BEYOND);
    }

    private static void mark() {
        OtherwiseBook x = book("15 mark");
        Due.rule(x, 0, "c3 s7:2 a1:0 b5", 4);
        Due.rule(x, 1, "y", 1);
        int told = x.asked();
        int[][] due = {{3, FINDING, FINDING, FINDING, FINDING}, {2, FINDING, 7, FINDING, FINDING},
            {0, FINDING, FINDING, 1, FINDING}, {FINDING, 5, FINDING, FINDING, FINDING}};
        for (int i = 0; i < 4; i++) {
            for (int kind = 1; kind <= 5; kind++) {
                Due.same("mark(0, " + i + ", " + kind + ")", x.mark(0, i, kind), due[i][kind - 1]);
            }
        }
        Due.same("findings(UNLIKE)", x.findings(UNLIKE), 14);
        Due.same("mark(1, 0, 2)", x.mark(1, 0, 2), 1);
        Due.same("mark(1, 0, 5)", x.mark(1, 0, 5), 1);
        Due.same("asked(): mark tells nothing by it", x.asked(), told);
        Due.found(x, "mark(1, 0, 1)", () -> x.mark(1, 0, 1), UNLIKE);
        Due.found(x, "mark(1, 0, 3)", () -> x.mark(1, 0, 3), UNLIKE);
        Due.refused(x, "mark(0, 0, 0)", () -> x.mark(0, 0, 0), BAD);
        Due.refused(x, "mark(0, 0, 6)", () -> x.mark(0, 0, 6), BAD);
        Due.refused(x, "mark(0, 9, -1)", () -> x.mark(0, 9, -1), BAD);
        Due.refused(x, "mark(4, 0, 1)", () -> x.mark(4, 0, 1), BAD);
        Due.refused(x, "mark(-1, 0, 1)", () -> x.mark(-1, 0, 1), BAD);
        Due.found(x, "mark(2, 0, 1)", () -> x.mark(2, 0, 1), NOTHING);
        Due.found(x, "mark(0, 4, 1)", () -> x.mark(0, 4, 1), BEYOND);
        Due.found(x, "mark(0, -1, 1)", () -> x.mark(0, -1, 1), BEYOND);
    }

    private static void line() {
        OtherwiseBook x = book("16 line");
        Due.page(x, 3, "n12 d0:1 d5:0 d11:3", 3);
        Due.asked(x, "line(3, 0)", x.line(3, 0), 0, 1);
        Due.asked(x, "line(3, 1)", x.line(3, 1), 5, 0);
        Due.asked(x, "line(3, 2)", x.line(3, 2), 11, 3);
        Due.refused(x, "line(4, 0)", () -> x.line(4, 0), BAD);
        Due.refused(x, "line(-1, 0)", () -> x.line(-1, 0), BAD);
        Due.found(x, "line(0, 0)", () -> x.line(0, 0), NOTHING);
        Due.found(x, "line(3, 3)", () -> x.line(3, 3), BEYOND);
        Due.found(x, "line(3, -1)", () -> x.line(3, -1), BEYOND);
        Due.found(x, "line(3, -9)", () -> x.line(3, -9), BEYOND);
        Due.found(x, "line(3, HIGH)", () -> x.line(3, HIGH), BEYOND);
    }

    private static void expects() {
        OtherwiseBook x = book("17 expects");
        Due.rule(x, 0, "s4:2 a3:1 b3", 3);
        Due.row(x, 0);
        Due.asked(x, "day 0 is a multiple", x.expects(0, 0), 2, 0);
        Due.row(x, 0, 3);
        Due.asked(x, "day 1 behind a 3", x.expects(0, 0), 1, 1);
        Due.row(x, 0, 1);
        Due.asked(x, "day 1: none tells it", x.expects(0, 0), 0, NONE);
        Due.row(x, 0, 1, 0, 2);
        Due.asked(x, "day 3 as three days ahead", x.expects(0, 0), 1, 2);
        Due.row(x, 0, 1, 0, 2, 3);
        Due.asked(x, "day 4 is a multiple", x.expects(0, 0), 2, 0);
        Due.rule(x, 1, "y c3", 2);
        Due.row(x, 1);
        Due.asked(x, "no day ahead", x.expects(1, 1), 3, 1);
        x.row(1, 23);
        Due.asked(x, "day 23", x.expects(1, 1), 0, 0);
        x.row(1, 24);
        Due.found(x, "day 24", () -> x.expects(1, 1), SIZE);
        x.lay(1, 0, 4);
        Due.found(x, "SIZE goes first", () -> x.expects(1, 1), SIZE);
        Due.row(x, 1, 0, 4);
        Due.found(x, "4 is no weather", () -> x.expects(1, 1), UNLIKE);
        Due.row(x, 1, -1, 0);
        Due.found(x, "-1 is no weather", () -> x.expects(1, 1), UNLIKE);
        Due.row(x, 1, 1, 2, 7);
        Due.row(x, 1, 1, 2);
        Due.asked(x, "what was behind the end does not count", x.expects(1, 1), 2, 0);
        Due.refused(x, "expects(4, 0)", () -> x.expects(4, 0), BAD);
        Due.refused(x, "expects(0, 6)", () -> x.expects(0, 6), BAD);
        Due.refused(x, "expects(-1, -1)", () -> x.expects(-1, -1), BAD);
        Due.found(x, "expects(2, 0)", () -> x.expects(2, 0), NOTHING);
        Due.found(x, "expects(0, 5)", () -> x.expects(0, 5), NOTHING);
    }

    private static void days() {
        OtherwiseBook x = chronicle("18 days");
        Due.asked(x, "days(0, 0, 5)", x.days(0, 0, 5), 6, 0);
        Due.isRow(x, 5, 0, 2, 2, 2, 3, 3);
        Due.asked(x, "days(2, 0, 5)", x.days(2, 0, 5), 6, 0);
        Due.isRow(x, 5, 0, 2, 0, 0, 3, 0);
        Due.page(x, 1, "n5 d1:1 d2:1 d4:0", 3);
        Due.asked(x, "days(1, 1, 5): lines 0 and 1 are idle", x.days(1, 1, 5), 5, 3);
        Due.isRow(x, 5, 1, 1, 1, 1, 0);
        Due.asked(x, "days(0, 1, 5): line 1 is idle", x.days(0, 1, 5), 5, 2);
        Due.rule(x, 3, "b2 s5:3 a1:2 c1", 4);
        Due.page(x, 2, "n8 d3:0", 1);
        Due.asked(x, "days(3, 2, 5)", x.days(3, 2, 5), 8, 0);
        Due.isRow(x, 5, 3, 1, 3, 0, 3, 0, 3, 0);
        Due.refused(x, "days(4, 0, 0)", () -> x.days(4, 0, 0), BAD);
        Due.refused(x, "days(0, 4, 0)", () -> x.days(0, 4, 0), BAD);
        Due.refused(x, "days(0, 0, 6)", () -> x.days(0, 0, 6), BAD);
        Due.refused(x, "days(0, 0, -1)", () -> x.days(0, 0, -1), BAD);
        Due.found(x, "days(0, 3, 5)", () -> x.days(0, 3, 5), NOTHING);
        OtherwiseBook y = book("18 days");
        Due.page(y, 0, "n2", 0);
        Due.found(y, "days(0, 0, 0)", () -> y.days(0, 0, 0), NOTHING);
    }

    private static void write() {
        OtherwiseBook x = chronicle("19 write");
        Due.row(x, 0, 0, 2, 2, 2, 3, 3);
        int told = x.asked();
        Due.same("write(0, 0, 3)", x.write(0, 0, 3), 2);
        Due.same("asked(): write tells nothing by it", x.asked(), told);
        Due.isPage(x, 3, 1, 2, 4, 3);
        Due.same("write(1, 0, 3)", x.write(1, 0, 3), 6);
        Due.isPage(x, 3, 0, 0, 1, 2, 2, 2, 3, 2, 4, 3, 5, 3);
        Due.asked(x, "days(1, 3, 1)", x.days(1, 3, 1), 6, 0);
        Due.isRow(x, 1, 0, 2, 2, 2, 3, 3);
        x.row(0, 24);
        Due.same("write(2, 0, 3)", x.write(2, 0, 3), 0);
        Due.same("days(1, 3, 1)", x.days(1, 3, 1), 24);
        x.row(0, 25);
        Due.found(x, "25 days", () -> x.write(2, 0, 3), SIZE);
        x.row(0, 0);
        Due.found(x, "0 days", () -> x.write(2, 0, 3), SIZE);
        Due.row(x, 0, 0, 4);
        Due.found(x, "4 is no weather", () -> x.write(2, 0, 3), UNLIKE);
        Due.refused(x, "write(4, 0, 0)", () -> x.write(4, 0, 0), BAD);
        Due.refused(x, "write(0, 6, 0)", () -> x.write(0, 6, 0), BAD);
        Due.refused(x, "write(0, 0, 4)", () -> x.write(0, 0, 4), BAD);
        Due.refused(x, "write(0, 0, -1)", () -> x.write(0, 0, -1), BAD);
        Due.found(x, "write(3, 0, 0)", () -> x.write(3, 0, 0), NOTHING);
        Due.found(x, "write(0, 5, 0)", () -> x.write(0, 5, 0), NOTHING);
    }

    private static void fewestAndMany() {
        OtherwiseBook x = book("20 fewest, 21 many");
        Due.row(x, 0, 2);
        Due.asked(x, "fewest(0, 1): c2", x.fewest(0, 1), 0, 2);
        Due.same("many(0, 1): c2, s2:2 .. s9:2", x.many(0, 1), 9);
        // c2 and s2:2 .. s9:2 first, or second behind those that can't tell: y, b, a
        Due.same("many(0, 2)", x.many(0, 2), 9 + 9 * 59 + 23 * 9);
        Due.row(x, 0, 1, 2, 1, 2, 1, 2);
        Due.asked(x, "fewest(0, 1): b2", x.fewest(0, 1), 2, 5);
        Due.asked(x, "fewest(0, 2): s2:1 c2", x.fewest(0, 2), 0, 59 + 59 * 12 + 2);
        int told = x.asked();
        Due.same("many(0, 2)", x.many(0, 2), withoutLines(1, 2, 1, 2, 1, 2));
        Due.same("asked(): many tells nothing by it", x.asked(), told);
        x.row(0, 24);
        Due.asked(x, "fewest(0, 2)", x.fewest(0, 2), 0, 0);
        x.row(0, 25);
        Due.found(x, "25 days", () -> x.fewest(0, 1), SIZE);
        Due.found(x, "25 days", () -> x.many(0, 1), SIZE);
        x.row(0, 0);
        Due.found(x, "0 days", () -> x.fewest(0, 2), SIZE);
        Due.found(x, "0 days", () -> x.many(0, 2), SIZE);
        Due.row(x, 0, 0, -1);
        Due.found(x, "no weather", () -> x.fewest(0, 1), UNLIKE);
        Due.found(x, "no weather", () -> x.many(0, 1), UNLIKE);
        for (int size = 0; size <= 3; size += 3) {
            int wrong = size;
            Due.refused(x, "fewest(0, " + size + ")", () -> x.fewest(0, wrong), BAD);
            Due.refused(x, "many(0, " + size + ")", () -> x.many(0, wrong), BAD);
        }
        Due.refused(x, "fewest(6, 1)", () -> x.fewest(6, 1), BAD);
        Due.refused(x, "many(-1, 1)", () -> x.many(-1, 1), BAD);
        Due.found(x, "fewest(5, 1)", () -> x.fewest(5, 1), NOTHING);
        Due.found(x, "many(5, 1)", () -> x.many(5, 1), NOTHING);
    }

    /** How many rules need no line for days, by trying all of them with write(). */
    private static int withoutLines(int... days) {
        int none = 0;
        for (int number = 0; number < 3540; number++) {
            OtherwiseBook x = new OtherwiseBook();
            Due.row(x, 0, days);
            x.numbered(3, number);
            if (x.write(3, 0, 3) == 0) none++;
        }
        return none;
    }

    private static void openAndRead() {
        OtherwiseBook x = chronicle("22 open, 23 read");
        Due.refused(x, "read()", x::read, STATE);
        Due.refused(x, "open(4, 0)", () -> x.open(4, 0), BAD);
        Due.refused(x, "open(0, -1)", () -> x.open(0, -1), BAD);
        Due.found(x, "open(3, 0)", () -> x.open(3, 0), NOTHING);
        Due.found(x, "open(0, 3)", () -> x.open(0, 3), NOTHING);
        Due.refused(x, "read(): still none", x::read, STATE);
        Due.same("open(0, 0)", x.open(0, 0), 6);
        Due.same("count(5)", x.count(5), 0);
        Due.asked(x, "read()", x.read(), 0, 0);
        Due.asked(x, "read()", x.read(), 2, 1);
        Due.rule(x, 0, "c1", 1);
        Due.page(x, 0, "n3", 0);
        Due.asked(x, "read(): by the rule and page as they were", x.read(), 2, 0);
        Due.asked(x, "read()", x.read(), 2, 0);
        Due.asked(x, "read()", x.read(), 3, 1);
        Due.same("count(5)", x.count(5), 5);
        Due.asked(x, "read()", x.read(), 3, 0);
        Due.refused(x, "read(): all are read", x::read, SPENT);
        Due.refused(x, "read(): all are read", x::read, SPENT);
        Due.found(x, "open(3, 0)", () -> x.open(3, 0), NOTHING);
        Due.same("count(5)", x.count(5), 6);
        Due.same("open(0, 0)", x.open(0, 0), 3);
        Due.same("count(5)", x.count(5), 0);
        Due.asked(x, "read()", x.read(), 1, 0);
        Due.page(x, 0, "n24 d23:2", 1);
        Due.same("open(0, 0)", x.open(0, 0), 24);
        for (int d = 0; d < 23; d++) Due.asked(x, "read()", x.read(), 1, 0);
        Due.asked(x, "read()", x.read(), 2, 1);
        Due.refused(x, "read()", x::read, SPENT);
    }

    private static void keepAndOn() {
        OtherwiseBook x = chronicle("24 keep, 25 on");
        Due.refused(x, "keep(0)", () -> x.keep(0), STATE);
        Due.refused(x, "keep(3)", () -> x.keep(3), BAD);
        Due.refused(x, "keep(-1)", () -> x.keep(-1), BAD);
        Due.refused(x, "on(3)", () -> x.on(3), BAD);
        Due.refused(x, "on(-1)", () -> x.on(-1), BAD);
        Due.found(x, "on(2)", () -> x.on(2), NOTHING);
        x.open(0, 0);
        Due.same("keep(0)", x.keep(0), 0);
        x.read();
        x.read();
        Due.same("keep(2)", x.keep(2), 2);
        long digest = x.digest();
        x.read();
        x.open(1, 0);
        x.read();
        Due.same("keep(1)", x.keep(1), 1);
        Due.same("on(2)", x.on(2), 2);
        Due.same("count(5)", x.count(5), 2);
        Due.same("digest() as it was kept", x.digest(), digest);
        Due.asked(x, "read()", x.read(), 2, 0);
        Due.same("on(0)", x.on(0), 0);
        Due.asked(x, "read()", x.read(), 0, 0);
        Due.asked(x, "read()", x.read(), 2, 1);
        Due.same("on(1)", x.on(1), 1);
        Due.asked(x, "read()", x.read(), 2, 1);
        Due.asked(x, "read(): by rule 1", x.read(), 1, 0);
        Due.same("on(2): it is still kept", x.on(2), 2);
        for (int d = 2; d < 6; d++) x.read();
        Due.same("keep(2): all are read", x.keep(2), 6);
        Due.same("on(2)", x.on(2), 6);
        Due.refused(x, "read()", x::read, SPENT);
    }

    private static void worlds() {
        OtherwiseBook x = chronicle("26 worlds");
        Due.same("no lines were held", x.worlds(0, 0, 2, 3, 0), 1);
        Due.same("one at most", x.worlds(0, 0, 2, 2, 1), 4 - 1); // day 3 as a 3 makes the line of day 4 idle
        Due.same("two days, one at most", x.worlds(0, 0, 2, 3, 1), 1 + 2 * 2);
        Due.same("two days, two at most", x.worlds(0, 0, 2, 3, 2), 1 + 2 * 2 + (2 * 2 + 3));
        Due.same("more than there are days", x.worlds(0, 0, 2, 3, 3), 12);
        Due.same("the line of day 1 is burnt", x.worlds(0, 0, 1, 1, 0), 1);
        Due.same("the last day, any weather", x.worlds(0, 0, 5, 5, 3), 4);
        Due.page(x, 1, "n24", 0);
        Due.same("eight days, three lines", x.worlds(1, 1, 16, 23, 3), 1 + 8 * 3 + 28 * 9 + 56 * 27);
        Due.page(x, 2, "n3 d0:1 d2:1", 2);
        Due.same("a line ahead is idle", x.worlds(1, 2, 1, 1, 3), 0);
        Due.same("all lines are burnt", x.worlds(1, 2, 0, 2, 0), 1);
        Due.refused(x, "i above j", () -> x.worlds(0, 0, 3, 2, 1), BAD);
        Due.refused(x, "nine days", () -> x.worlds(0, 0, 0, 8, 1), BAD);
        Due.refused(x, "i below 0", () -> x.worlds(0, 0, -1, 2, 1), BAD);
        Due.refused(x, "j above 23", () -> x.worlds(0, 0, 20, 24, 1), BAD);
        Due.refused(x, "m above 3", () -> x.worlds(0, 0, 0, 2, 4), BAD);
        Due.refused(x, "m below 0", () -> x.worlds(0, 0, 0, 2, -1), BAD);
        Due.refused(x, "no such rule", () -> x.worlds(4, 0, 0, 2, 1), BAD);
        Due.refused(x, "no such page", () -> x.worlds(0, -1, 0, 2, 1), BAD);
        Due.refused(x, "far out", () -> x.worlds(0, 0, LOW, HIGH, 1), BAD);
        Due.found(x, "a rule is missing", () -> x.worlds(3, 0, 0, 7, 1), NOTHING);
        Due.found(x, "a page is missing", () -> x.worlds(0, 3, 0, 2, 1), NOTHING);
        Due.found(x, "j is no day", () -> x.worlds(0, 0, 5, 6, 1), BEYOND);
        Due.same("j is the last day", x.worlds(0, 0, 5, 5, 0), 1);
        Due.same("asked(): worlds tells nothing by it", x.asked(), 0);
    }

    private static void sure() {
        OtherwiseBook x = chronicle("27 sure");
        Due.same("one world: all days", x.sure(0, 0, 2, 3, 0), 63);
        Due.same("days 2 and 3 are not", x.sure(0, 0, 2, 3, 1), 63 - 4 - 8);
        Due.same("the last day", x.sure(0, 0, 5, 5, 1), 31);
        Due.same("day 5 follows of day 4", x.sure(0, 0, 4, 4, 1), 15);
        Due.page(x, 2, "n3 d0:1 d2:1", 2);
        Due.found(x, "no worlds", () -> x.sure(1, 2, 1, 1, 3), NOUGHT);
        Due.refused(x, "nine days", () -> x.sure(0, 0, 0, 8, 1), BAD);
        Due.refused(x, "i above j", () -> x.sure(0, 0, 2, 1, 1), BAD);
        Due.refused(x, "m above 3", () -> x.sure(0, 0, 0, 0, 4), BAD);
        Due.refused(x, "no such rule", () -> x.sure(-1, 0, 0, 0, 0), BAD);
        Due.found(x, "a rule is missing", () -> x.sure(3, 0, 0, 7, 1), NOTHING);
        Due.found(x, "a page is missing", () -> x.sure(0, 3, 0, 7, 1), NOTHING);
        Due.found(x, "j is no day", () -> x.sure(0, 0, 0, 6, 1), BEYOND);
    }

    private static void can() {
        OtherwiseBook x = chronicle("28 can");
        Due.same("day 2", x.can(0, 0, 2, 2, 1, 2), 1 + 2 + 4);
        Due.same("day 3 follows", x.can(0, 0, 2, 2, 1, 3), 1 + 2 + 4);
        Due.same("day 1", x.can(0, 0, 2, 2, 1, 1), 4);
        Due.same("day 4", x.can(0, 0, 2, 2, 1, 4), 8);
        Due.same("day 2, then 3 otherwise", x.can(0, 0, 2, 3, 2, 2), 15);
        Due.same("none held", x.can(0, 0, 2, 3, 0, 2), 4);
        Due.page(x, 2, "n3 d0:1 d2:1", 2);
        Due.same("no worlds", x.can(1, 2, 1, 1, 3, 1), 0);
        Due.refused(x, "d is 24", () -> x.can(0, 0, 2, 3, 0, 24), BAD);
        Due.refused(x, "d is -1", () -> x.can(0, 0, 2, 3, 0, -1), BAD);
        Due.refused(x, "d is -1, the rule missing", () -> x.can(3, 0, 2, 3, 0, -1), BAD);
        Due.refused(x, "nine days", () -> x.can(0, 0, 0, 8, 0, 0), BAD);
        Due.refused(x, "no such page", () -> x.can(0, 4, 0, 7, 0, 0), BAD);
        Due.found(x, "a rule is missing", () -> x.can(3, 0, 0, 7, 0, 0), NOTHING);
        Due.found(x, "a page is missing", () -> x.can(0, 3, 0, 7, 0, 0), NOTHING);
        Due.found(x, "j is no day", () -> x.can(0, 0, 0, 6, 0, 0), BEYOND);
        Due.found(x, "d is no day", () -> x.can(0, 0, 0, 5, 0, 6), BEYOND);
    }

    private static void rules() {
        OtherwiseBook x = book("29 rules");
        Due.page(x, 0, "n1 d0:2", 1);
        Due.asked(x, "all of one but nine", x.rules(0, 1), 50, 0);
        Due.asked(x, "all of two but 9 + 9 * 59 + 23 * 9", x.rules(0, 2), 3540 - 747, 0);
        Due.page(x, 0, "n2 d0:0 d1:1", 2);
        // c1 .. c3, s2 .. s9 of 1 .. 3 make day 0 otherwise; of these c1 tells 1 of day 1
        Due.asked(x, "c2, c3, s k:1 .. 3", x.rules(0, 1), 2 + 24, 2);
        impossible(x, 1);
        Due.asked(x, "none of one makes it possible", x.rules(1, 1), 0, NONE);
        Due.refused(x, "rules(0, 0)", () -> x.rules(0, 0), BAD);
        Due.refused(x, "rules(0, 3)", () -> x.rules(0, 3), BAD);
        Due.refused(x, "rules(4, 1)", () -> x.rules(4, 1), BAD);
        Due.refused(x, "rules(-1, 1)", () -> x.rules(-1, 1), BAD);
        Due.found(x, "rules(3, 1)", () -> x.rules(3, 1), NOTHING);
    }

    /** A page that no rule of one clause makes possible. */
    private static void impossible(OtherwiseBook x, int k) {
        StringBuilder all = new StringBuilder("n24");
        for (int d = 0; d < 24; d++) all.append("d").append(d).append(":").append(d / 3 % 4);
        Due.page(x, k, all.toString(), 24);
    }

    private static void agree() {
        OtherwiseBook x = book("30 agree");
        Due.page(x, 0, "n3 d1:1", 1);
        Due.same("the day of the line", x.agree(0, 1), 2);
        Due.page(x, 0, "n2 d0:0 d1:1", 2);
        Due.same("both days", x.agree(0, 1), 3);
        Due.same("both days", x.agree(0, 2), 3);
        impossible(x, 1);
        Due.found(x, "none", () -> x.agree(1, 1), NOUGHT);
        Due.refused(x, "agree(0, 3)", () -> x.agree(0, 3), BAD);
        Due.refused(x, "agree(4, 1)", () -> x.agree(4, 1), BAD);
        Due.found(x, "agree(3, 1)", () -> x.agree(3, 1), NOTHING);
    }

    private static void ask() {
        OtherwiseBook x = book("31 ask");
        Due.page(x, 0, "n2", 0);
        // day 0: 0 by c0, y, b, s k:0, a (1 + 1 + 6 + 8 + 16), 1 .. 3 by c and s (1 + 8 each)
        Due.asked(x, "day 0 parts them best", x.ask(0, 1), 0, 32);
        Due.page(x, 0, "n2 d0:0", 1);
        // left: c1 .. c3 and s k:1 .. 3; day 1: 0 by all s (24), 1 .. 3 by one c each
        Due.asked(x, "day 1, as day 0 is sure", x.ask(0, 1), 1, 24);
        Due.page(x, 0, "n2 d0:0 d1:1", 2);
        Due.asked(x, "all agree: the first", x.ask(0, 1), 0, 26);
        impossible(x, 1);
        Due.found(x, "none", () -> x.ask(1, 1), NOUGHT);
        Due.refused(x, "ask(0, 0)", () -> x.ask(0, 0), BAD);
        Due.refused(x, "ask(-1, 1)", () -> x.ask(-1, 1), BAD);
        Due.found(x, "ask(3, 1)", () -> x.ask(3, 1), NOTHING);
    }

    private static void fraction(OtherwiseBook x, String call, int got, int want, long upper, long lower) {
        Due.same(call, got, want);
        Due.same("upper() behind " + call, x.upper(), upper);
        Due.same("lower() behind " + call, x.lower(), lower);
    }

    private static void likely() {
        OtherwiseBook x = book("32 likely");
        Due.page(x, 0, "n2 d0:0", 1);
        int told = x.asked();
        fraction(x, "likely(0, 1, 1, 0)", x.likely(0, 1, 1, 0), 24, 8, 9);
        fraction(x, "likely(0, 1, 1, 3)", x.likely(0, 1, 1, 3), 1, 1, 27);
        fraction(x, "likely(0, 1, 0, 0)", x.likely(0, 1, 0, 0), 27, 1, 1);
        fraction(x, "likely(0, 1, 0, 1)", x.likely(0, 1, 0, 1), 0, 0, 1);
        Due.same("asked(): likely tells nothing by it", x.asked(), told);
        x.likely(0, 1, 1, 0);
        impossible(x, 1);
        Due.found(x, "none", () -> x.likely(1, 1, 0, 0), NOUGHT);
        Due.refused(x, "likely(0, 1, 24, 0)", () -> x.likely(0, 1, 24, 0), BAD);
        Due.refused(x, "likely(0, 1, -1, 0)", () -> x.likely(0, 1, -1, 0), BAD);
        Due.refused(x, "likely(0, 1, 0, 4)", () -> x.likely(0, 1, 0, 4), BAD);
        Due.refused(x, "likely(0, 1, 0, -1)", () -> x.likely(0, 1, 0, -1), BAD);
        Due.refused(x, "likely(0, 3, 0, 0)", () -> x.likely(0, 3, 0, 0), BAD);
        Due.refused(x, "likely(4, 1, 0, 0)", () -> x.likely(4, 1, 0, 0), BAD);
        Due.found(x, "likely(3, 1, 23, 0)", () -> x.likely(3, 1, 23, 0), NOTHING);
        Due.found(x, "likely(0, 1, 2, 0)", () -> x.likely(0, 1, 2, 0), BEYOND);
    }

    private static void left() {
        OtherwiseBook x = book("33 left");
        Due.page(x, 0, "n2 d0:0", 1);
        Due.asked(x, "nothing is known", x.left(0, 1), 27, 1);
        x.know(2, 3);
        Due.asked(x, "of a day that the page has not", x.left(0, 1), 27, 1);
        x.know(1, 0);
        Due.asked(x, "all s", x.left(0, 1), 24, 12);
        x.know(0, 0);
        Due.asked(x, "the line's day", x.left(0, 1), 24, 12);
        x.know(1, 2);
        Due.asked(x, "it can't be both", x.left(0, 2), 0, NONE);
        x.forget(0);
        x.know(1, 2);
        Due.asked(x, "c2", x.left(0, 1), 1, 2);
        Due.same("rules() knows nothing", x.rules(0, 1), 27);
        Due.refused(x, "left(0, 0)", () -> x.left(0, 0), BAD);
        Due.refused(x, "left(4, 1)", () -> x.left(4, 1), BAD);
        Due.found(x, "left(3, 1)", () -> x.left(3, 1), NOTHING);
    }

    private static void changedAndWhen() {
        OtherwiseBook x = chronicle("34 changed, 35 when");
        Due.row(x, 0, 0, 2, 2, 2, 3, 3);
        Due.asked(x, "the same rule: any day", x.changed(0, 0, 0, 0), 7, 0);
        Due.same("when", x.when(0, 0, 0, 0), 127);
        Due.asked(x, "rule 2 needs a line on days 2, 3, 5", x.changed(0, 2, 0, 0), 1, 6);
        Due.same("when", x.when(0, 2, 0, 0), 64);
        Due.asked(x, "rule 2 up to day 2", x.changed(2, 0, 0, 0), 3, 0);
        Due.same("when", x.when(2, 0, 0, 0), 7);
        Due.asked(x, "rule 1 never", x.changed(1, 1, 0, 0), 0, NONE);
        Due.same("when", x.when(1, 1, 0, 0), 0);
        Due.page(x, 1, "n6 d1:1 d4:3", 2);
        Due.asked(x, "a line of another weather", x.changed(0, 0, 1, 0), 0, NONE);
        Due.page(x, 2, "n6 d1:2 d2:2 d4:3", 3);
        Due.asked(x, "a line that is not needed", x.changed(0, 0, 2, 0), 0, NONE);
        Due.page(x, 3, "n24", 0);
        x.row(1, 24);
        Due.same("t may be 24", x.when(2, 0, 3, 1), (1 << 25) - 1);
        Due.found(x, "not as many", () -> x.changed(0, 0, 3, 0), SIZE);
        Due.found(x, "not as many", () -> x.when(0, 0, 3, 0), SIZE);
        x.lay(0, 5, 4);
        Due.found(x, "SIZE goes first", () -> x.when(0, 0, 3, 0), SIZE);
        Due.found(x, "no weather", () -> x.changed(0, 0, 0, 0), UNLIKE);
        Due.found(x, "no weather", () -> x.when(0, 0, 0, 0), UNLIKE);
        int[][] wrong = {{4, 0, 0, 0}, {0, 4, 0, 0}, {0, 0, 4, 0}, {0, 0, 0, 6}, {-1, 3, 3, 5}};
        for (int[] w : wrong) {
            Due.refused(x, "changed", () -> x.changed(w[0], w[1], w[2], w[3]), BAD);
            Due.refused(x, "when", () -> x.when(w[0], w[1], w[2], w[3]), BAD);
        }
        OtherwiseBook y = chronicle("34 changed, 35 when");
        Due.row(y, 0, 4);
        int[][] missing = {{3, 0, 0, 0}, {0, 3, 0, 0}, {0, 0, 3, 0}, {0, 0, 0, 5}};
        for (int[] w : missing) {
            Due.found(y, "changed", () -> y.changed(w[0], w[1], w[2], w[3]), NOTHING);
            Due.found(y, "when", () -> y.when(w[0], w[1], w[2], w[3]), NOTHING);
        }
    }

    private static void joined() {
        OtherwiseBook x = chronicle("36 joined");
        Due.asked(x, "0 2 2 2 3 3 and 1 2 1 1 3 1", x.joined(0, 0, 1, 0), 1 + 4 + 8 + 32, 6);
        Due.page(x, 1, "n3 d1:2", 1);
        Due.asked(x, "0 2 2 and 0 2 0", x.joined(0, 0, 2, 1), 4, 3);
        Due.asked(x, "the other way round", x.joined(2, 1, 0, 0), 4, 3);
        Due.asked(x, "one and the same", x.joined(0, 0, 0, 0), 0, 6);
        Due.page(x, 2, "n24", 0);
        Due.asked(x, "all 24 days", x.joined(0, 2, 1, 2), (1 << 24) - 1, 24);
        int[][] wrong = {{4, 0, 0, 0}, {0, 4, 0, 0}, {0, 0, 4, 0}, {0, 0, 0, 4}, {3, 3, 3, -1}};
        for (int[] w : wrong) Due.refused(x, "joined", () -> x.joined(w[0], w[1], w[2], w[3]), BAD);
        int[][] missing = {{3, 0, 0, 0}, {0, 3, 0, 0}, {0, 0, 3, 0}, {0, 0, 0, 3}};
        for (int[] w : missing) Due.found(x, "joined", () -> x.joined(w[0], w[1], w[2], w[3]), NOTHING);
    }

    private static void follows() {
        OtherwiseBook x = chronicle("37 follows");
        Due.asked(x, "days 1, 2, 3", x.follows(0, 0, 0), 3, 3);
        Due.asked(x, "days 4, 5", x.follows(0, 0, 1), 2, 5);
        Due.asked(x, "day 4 alone", x.follows(1, 0, 1), 1, 4);
        Due.page(x, 1, "n3 d0:1", 1);
        Due.asked(x, "an idle line: none", x.follows(1, 1, 0), 0, NONE);
        Due.refused(x, "follows(4, 0, 0)", () -> x.follows(4, 0, 0), BAD);
        Due.refused(x, "follows(0, -1, 0)", () -> x.follows(0, -1, 0), BAD);
        Due.found(x, "follows(3, 0, 9)", () -> x.follows(3, 0, 9), NOTHING);
        Due.found(x, "follows(0, 3, 9)", () -> x.follows(0, 3, 9), NOTHING);
        Due.found(x, "follows(0, 0, 2)", () -> x.follows(0, 0, 2), BEYOND);
        Due.found(x, "follows(0, 0, -1)", () -> x.follows(0, 0, -1), BEYOND);
        Due.found(x, "follows(0, 0, LOW)", () -> x.follows(0, 0, LOW), BEYOND);
    }

    private static void knowAndForget() {
        OtherwiseBook x = book("38 know, 39 forget");
        Due.same("forget(0)", x.forget(0), 0);
        Due.refused(x, "forget(1)", () -> x.forget(1), BAD);
        for (int i = 0; i < 8; i++) Due.same("know(23, 3)", x.know(23, 3), i);
        Due.same("count(4)", x.count(4), 8);
        Due.refused(x, "know(0, 0)", () -> x.know(0, 0), FULL);
        Due.refused(x, "know(24, 0): BAD goes first", () -> x.know(24, 0), BAD);
        Due.refused(x, "know(-1, 0)", () -> x.know(-1, 0), BAD);
        Due.refused(x, "know(0, 4)", () -> x.know(0, 4), BAD);
        Due.refused(x, "know(0, -1)", () -> x.know(0, -1), BAD);
        Due.refused(x, "forget(9)", () -> x.forget(9), BAD);
        Due.refused(x, "forget(-1)", () -> x.forget(-1), BAD);
        Due.refused(x, "forget(LOW)", () -> x.forget(LOW), BAD);
        Due.same("forget(8)", x.forget(8), 0);
        Due.same("forget(6)", x.forget(6), 2);
        Due.same("count(4)", x.count(4), 6);
        Due.same("know(0, 0)", x.know(0, 0), 6);
        Due.same("forget(0)", x.forget(0), 7);
        Due.same("count(4)", x.count(4), 0);
    }

    private static void forbids() {
        OtherwiseBook x = chronicle("40 forbids");
        x.days(0, 0, 0);
        x.at(0, 5);
        Due.asked(x, "nothing is known: asked() stays", x.forbids(0, 0), NONE, 3);
        x.know(1, 2);
        x.know(6, 3);
        x.know(23, 3);
        Due.asked(x, "so, or of days that are not", x.forbids(0, 0), NONE, 3);
        x.know(2, 1);
        x.know(3, 2);
        x.know(5, 0);
        x.know(2, 0);
        Due.asked(x, "numbers 3, 5, 6", x.forbids(0, 0), 3, 3);
        Due.asked(x, "by rule 2: numbers 3, 4", x.forbids(2, 0), 3, 2);
        Due.asked(x, "by rule 1: numbers 4, 5, 6", x.forbids(1, 0), 4, 3);
        Due.refused(x, "forbids(4, 0)", () -> x.forbids(4, 0), BAD);
        Due.refused(x, "forbids(0, -1)", () -> x.forbids(0, -1), BAD);
        Due.found(x, "forbids(3, 0)", () -> x.forbids(3, 0), NOTHING);
        Due.found(x, "forbids(0, 3)", () -> x.forbids(0, 3), NOTHING);
    }

    private static void suspects() {
        OtherwiseBook x = chronicle("41 suspects");
        Due.asked(x, "nothing is known", x.suspects(0, 0), 3, 0);
        x.know(5, 3);
        Due.asked(x, "line 0 alone may be false", x.suspects(0, 0), 1, 0);
        x.forget(0);
        x.know(5, 2);
        Due.asked(x, "line 1 is", x.suspects(0, 0), 2, 1);
        x.know(1, 0);
        Due.asked(x, "then day 5 is a 0", x.suspects(0, 0), 0, NONE);
        x.forget(0);
        x.know(5, 0);
        Due.asked(x, "both", x.suspects(0, 0), 0, 2);
        x.know(6, 1);
        Due.asked(x, "the page has no day 6", x.suspects(0, 0), 0, 2);
        x.forget(0);
        Due.page(x, 1, "n9 d1:1 d3:1 d5:1 d7:1", 4);
        x.know(1, 0);
        x.know(3, 0);
        x.know(5, 0);
        Due.asked(x, "three must be left out", x.suspects(2, 1), 0, 3);
        x.know(7, 0);
        Due.asked(x, "more than three", x.suspects(2, 1), 0, NONE);
        x.forget(2);
        Due.asked(x, "two", x.suspects(2, 1), 0, 2);
        x.forget(1);
        Due.asked(x, "line 0", x.suspects(2, 1), 1, 1);
        Due.refused(x, "suspects(4, 0)", () -> x.suspects(4, 0), BAD);
        Due.refused(x, "suspects(0, -1)", () -> x.suspects(0, -1), BAD);
        Due.found(x, "suspects(3, 0)", () -> x.suspects(3, 0), NOTHING);
        Due.found(x, "suspects(0, 3)", () -> x.suspects(0, 3), NOTHING);
    }

    private static void asked() {
        OtherwiseBook x = chronicle("42 asked");
        Due.same("asked() before any", x.asked(), 0);
        Due.row(x, 0, 7);
        x.at(0, 0);
        Due.same("asked()", x.asked(), 7);
        x.row(1, 1);
        x.tear(1);
        x.copy(0, 0, 0, 0, 1);
        x.text(0, 1);
        x.put(0, 0, 121);
        x.fault(0, false);
        x.fault(0, true);
        x.rule(3, 0);
        x.numbered(3, 5);
        x.mark(0, 0, 5);
        x.row(1, 3);
        x.write(0, 1, 3);
        x.many(1, 1);
        x.open(0, 0);
        x.keep(0);
        x.on(0);
        x.worlds(0, 0, 0, 1, 1);
        x.sure(0, 0, 0, 1, 1);
        x.can(0, 0, 0, 1, 1, 0);
        x.agree(0, 1);
        x.likely(0, 1, 0, 0);
        x.when(0, 0, 3, 1);
        x.know(23, 0);
        x.forget(0);
        x.forbids(0, 0);
        x.count(0);
        x.digest();
        Due.same("asked() is as the latest at() told", x.asked(), 7);
        Due.same("no finding meanwhile", x.finding(), 0);
    }

    private static void fractions() {
        OtherwiseBook x = book("43 upper, 44 lower");
        Due.same("upper()", x.upper(), 0);
        Due.same("lower()", x.lower(), 1);
        Due.page(x, 0, "n2 d0:0", 1);
        fraction(x, "8 by 9", x.likely(0, 1, 1, 0), 24, 8, 9);
        x.mean(0);
        x.rules(0, 1);
        x.ask(0, 1);
        x.left(0, 1);
        Due.found(x, "likely(0, 1, 5, 0)", () -> x.likely(0, 1, 5, 0), BEYOND);
        fraction(x, "still", 0, 0, 8, 9);
        fraction(x, "0 by 1", x.likely(0, 1, 0, 3), 0, 0, 1);
    }

    private static void count() {
        OtherwiseBook x = chronicle("45 count");
        Due.rule(x, 3, "c1 s2:3 a1:0 b4", 4);
        Due.same("count(0)", x.count(0), 4);
        Due.same("count(1)", x.count(1), 1);
        Due.same("count(2)", x.count(2), 6);
        Due.same("count(3)", x.count(3), 4);
        x.know(1, 1);
        x.know(1, 1);
        Due.same("count(4)", x.count(4), 2);
        x.open(0, 0);
        x.read();
        x.read();
        x.read();
        Due.same("count(5)", x.count(5), 3);
        x.row(0, 0);
        Due.same("count(6)", x.count(6), 1);
        Due.same("count(7)", x.count(7), 2);
        Due.refused(x, "count(8)", () -> x.count(8), BAD);
        Due.refused(x, "count(-1)", () -> x.count(-1), BAD);
        Due.refused(x, "count(LOW)", () -> x.count(LOW), BAD);
    }

    private static void findings() {
        OtherwiseBook x = chronicle("46 finding, 47 findings");
        x.row(0, 0);
        Due.same("finding()", x.finding(), 0);
        x.mean(1);
        Due.same("finding()", x.finding(), NOTHING);
        x.at(0, 0);
        Due.same("finding()", x.finding(), BEYOND);
        x.mark(0, 0, 1);
        Due.same("finding()", x.finding(), UNLIKE);
        x.mean(0);
        Due.same("finding()", x.finding(), NOUGHT);
        x.row(0, -1);
        Due.same("finding()", x.finding(), SIZE);
        x.row(0, -1);
        x.row(0, 61);
        x.row(0, 1);
        x.read();
        Due.same("finding() stays behind other answers", x.finding(), SIZE);
        int[] often = {0, 1, 1, 1, 1, 2};
        for (int f = 1; f <= 5; f++) Due.same("findings(" + f + ")", x.findings(f), often[f]);
        Due.refused(x, "findings(0)", () -> x.findings(0), BAD);
        Due.refused(x, "findings(6)", () -> x.findings(6), BAD);
        Due.refused(x, "findings(LOW)", () -> x.findings(LOW), BAD);
    }

    private static long fold(long... all) {
        long h = 17;
        for (long v : all) h = 31 * h + v;
        return h;
    }

    private static void digest() {
        OtherwiseBook x = book("48 digest");
        Due.same("a new one", x.digest(), fold(0, 0, 0, 0, 0, 0, 0, 0, -1, -1, -1, -1, -1, -1, -1, -1, -1,
                -1, -1, -1, -1, -1, -1, -1, -1, -1, -1));
        Due.rule(x, 1, "", 0);
        x.numbered(2, 59 + 59 * 4 + 43);
        Due.page(x, 3, "n3 d1:2", 1);
        x.know(7, 3);
        x.open(2, 3);
        x.read();
        x.read();
        Due.row(x, 4, 9, -9);
        x.row(5, 0);
        x.text(1, 0);
        x.put(0, 0, 0);
        x.text(0, 2);
        x.put(0, 1, 200);
        Due.same("with all", x.digest(), fold(2, 1, 2, 1, 1, 2, 2, 2, -1, 4, 43, -1, -1, -1, -1, 3, 1, 2, 7, 3, 0, 2,
                -1, -1, -1, -1, 2, 9, -9, 0, 2, 32, -56, 0, -1, -1));
        long digest = x.digest();
        Due.same("digest() again", x.digest(), digest);
        x.keep(0);
        Due.same("what is kept is not told", x.digest(), digest);
        x.on(0);
        Due.same("nor is going on", x.digest(), digest);
        x.forget(0);
        x.open(2, 3);
        Due.same("nothing known, nothing read", x.digest(), fold(2, 1, 2, 1, 0, 0, 2, 2, -1, 4, 43, -1, -1, -1, -1,
                3, 1, 2, -1, -1, -1, -1, 2, 9, -9, 0, 2, 32, -56, 0, -1, -1));
    }
}
