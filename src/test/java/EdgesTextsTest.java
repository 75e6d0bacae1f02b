import java.util.Arrays;

/** Promises 10 to 17, each sentence that names a boundary: faults, rules, pages, clauses, lines. */
public final class EdgesTextsTest {
    private static final int BAD = Witness.BAD, STATE = Witness.STATE, NONE = Witness.NONE;
    private static final int NOTHING = Witness.NOTHING, BEYOND = Witness.BEYOND, UNLIKE = Witness.UNLIKE;
    private static final int SIZE = Witness.SIZE;
    private static final int LOW = Witness.LOW, HIGH = Witness.HIGH;
    private static final int[] NO_ROWS = {-1, 6, LOW, HIGH}, NO_FOURTH = {-1, 4, 5, LOW, HIGH};

    public static void main(String[] args) {
        emptyTexts();
        blanksAlone();
        everySignAlone();
        figuresOfClauses();
        blanksWithinClauses();
        fourClausesAndAFifth();
        ruleEndsTooEarly();
        ruleOfFullLength();
        daysOfAPage();
        daysOfLines();
        weathersOfLines();
        linesAreLater();
        justOneN();
        noN();
        blanksWithinLines();
        pageEndsTooEarly();
        pageOfFullLength();
        bytesThatAreNoSigns();
        faultRefused();
        ruleRefused();
        ruleAnew();
        numberedNumbers();
        numberedRefused();
        pageRefused();
        pageAnew();
        clauseNumbersAndKinds();
        clausePlaces();
        markOfEveryClause();
        markRefused();
        linePlaces();
        expectsSizes();
        expectsWeathers();
        expectsBack();
        expectsEach();
        expectsAfter();
        expectsFirstClause();
        expectsOrder();
        Due.end();
    }

    // ---- 10 fault, with what rule() and page() say to the same text

    private static void rule(String signs, int want) {
        Witness w = new Witness("10 fault, 11 rule, of '" + signs + "'");
        w.text(3, signs);
        w.is(want, "fault", 3, 0);
        if (want != NONE) {
            w.refuses(STATE, "rule", 2, 3);
        } else {
            w.rules[2] = Witness.numbers(signs);
            w.is(w.rules[2].length, "rule", 2, 3);
        }
    }

    private static void page(String signs, int want) {
        Witness w = new Witness("10 fault, 13 page, of '" + signs + "'");
        w.text(3, signs);
        w.is(want, "fault", 3, 1);
        if (want != NONE) {
            w.refuses(STATE, "page", 2, 3);
        } else {
            w.pages[2] = Witness.lines(signs);
            w.is(w.pages[2].length / 2, "page", 2, 3);
        }
    }

    private static String blanks(int n) {
        return " ".repeat(n);
    }

    private static void emptyTexts() {
        rule("", NONE);
        page("", 0);
    }

    private static void blanksAlone() {
        for (int n : new int[] {1, 2, 119, 120}) {
            rule(blanks(n), NONE);
            page(blanks(n), n);
        }
    }

    /** All 256 bytes, each as the only one of a text. */
    private static void everySignAlone() {
        for (int from = -128; from < 128; from += 64) {
            Witness w = new Witness("10 fault: every byte alone");
            w.text(0, " ");
            for (int b = from; b < from + 64; b++) {
                w.quick((b == from ? 32 : b - 1) + 1000, "put", 0, 0, b);
                boolean begins = b == 'c' || b == 'b' || b == 's' || b == 'a';
                w.quick(b == 'y' || b == ' ' ? NONE : begins ? 1 : 0, "fault", 0, 0);
                w.quick(b == 'n' || b == ' ' ? 1 : 0, "fault", 0, 1);
            }
            w.texts[0][0] = (byte) (from + 63);
            w.look("all faults");
        }
    }

    /** A figure that is none such: its place. Signs 47 and 58 stand beside the figures. */
    private static void figuresOfClauses() {
        String[] forms = {"c#", "b#", "s#:0", "s2:#", "a#:0", "a0:#", "  c#", "y b#", "c1c2c3s9:#"};
        int[][] taken = {{0, 3}, {2, 7}, {2, 9}, {0, 3}, {0, 3}, {0, 3}, {0, 3}, {2, 7}, {0, 3}};
        for (int i = 0; i < forms.length; i++) {
            for (int figure = -1; figure <= 10; figure++) {
                boolean such = figure >= taken[i][0] && figure <= taken[i][1];
                String signs = forms[i].replace('#', (char) ('0' + figure));
                rule(signs, such ? NONE : forms[i].indexOf('#'));
            }
        }
        rule("c12", 2);
        rule("b22", 2);
        rule("y1", 1);
        rule("s10:0", 1);
        rule("s22:0", 2);
        rule("a1:11", 4);
        rule("C1", 0);
        rule("Y", 0);
        rule("s2;1", 2);
        rule("a0 0", 2);
    }

    private static void blanksWithinClauses() {
        rule(" c 1", 2);
        rule("b 2", 1);
        rule("s 2:1", 1);
        rule("s2 :1", 2);
        rule("s2: 1", 3);
        rule("a 1:1", 1);
        rule("a1 :1", 2);
        rule("a1: 1", 3);
        rule("yc1", NONE);
        rule("c1y b2s2:1a1:1".substring(0, 10), NONE);
        rule("   c1    y   b7  ", NONE);
        rule("c1" + (char) 9 + "y", 2);
    }

    private static void fourClausesAndAFifth() {
        rule("yyyy", NONE);
        rule("c0 b2 s9:3 a3:3", NONE);
        rule("y y y y" + blanks(5), NONE);
        for (String fifth : new String[] {"y", "c1", "b2", "s2:1", "a1:1", "x", "c", "5"}) {
            rule("yyyy" + fifth, 4);
            rule(" c3 b7s9:3 a3:3  " + fifth, 17);
        }
    }

    private static void ruleEndsTooEarly() {
        String[] whole = {"c1", "b2", "s2:1", "a1:1"};
        for (String clause : whole) {
            for (int n = 1; n < clause.length(); n++) {
                rule(clause.substring(0, n), n);
                rule("y  " + clause.substring(0, n), n + 3);
            }
        }
    }

    private static void ruleOfFullLength() {
        rule("c1" + blanks(118), NONE);
        rule(blanks(119) + "y", NONE);
        rule(blanks(118) + "c3", NONE);
        rule(blanks(119) + "c", 120);
        rule(blanks(118) + "s2", 120);
        rule(blanks(119) + "x", 119);
        rule(blanks(116) + "a3:4", 119);
    }

    /** n out of 1 .. 24: the place behind; one or two figures, with 0 ahead or without. */
    private static void daysOfAPage() {
        for (int n = 0; n < 100; n++) {
            boolean such = n >= 1 && n <= 24;
            String plain = "n" + n;
            page(plain, such ? NONE : plain.length());
            if (n < 10) page("n0" + n, such ? NONE : 3);
        }
        page("n100", 3);
        page("n240", 3);
        page("n024", 3);
        page("n001", 3);
        page("n0 1", 2);
        page("n25 d0:1", 3);
        page("  n99d0:1", 5);
        page("n/", 1);
        page("n:", 1);
        page("n-1", 1);
        page("n1/", 2);
        page("n2:", 2);
        page("n24:", 3);
        page("N1", 0);
    }

    /** A day that there is not: the place behind. */
    private static void daysOfLines() {
        for (int d = 0; d < 100; d++) {
            String line = "n24 d" + d + ":1";
            page(line, d < 24 ? NONE : line.length() - 2);
            if (d < 10) page("n24 d0" + d + ":1", NONE);
        }
        page("n1 d0:3", NONE);
        page("n1 d1:3", 5);
        page("n1 d00:3", NONE);
        page("n1 d01:3", 6);
        page("n9 d8:3", NONE);
        page("n9 d9:3", 5);
        page("n10 d9:3", NONE);
        page("n10 d10:3", 7);
        page("n24 d100:1", 7);
        page("n24 d000:1", 7);
        page("n24 d/:1", 5);
        page("n24 d::1", 5);
        page("n24 d-1:1", 5);
        page("n24 d24", 7);
        page("n24 d2" + (char) 200, 6);
        page("n24 d1;1", 6);
        page("n24 D1:1", 4);
    }

    private static void weathersOfLines() {
        for (int v = -1; v <= 10; v++) {
            page("n3 d1:" + (char) ('0' + v), v >= 0 && v <= 3 ? NONE : 6);
            page("n24 d23:" + (char) ('0' + v) + " ", v >= 0 && v <= 3 ? NONE : 8);
        }
        page("n3 d1:10", 7);
        page("n3 d1:1:", 7);
    }

    /** A day that is not later: the place behind. */
    private static void linesAreLater() {
        page("n24 d0:1 d1:1", NONE);
        page("n24 d0:1 d0:1", 11);
        page("n24 d5:1 d5:2", 11);
        page("n24 d5:1 d4:2", 11);
        page("n24 d5:1 d05:2", 12);
        page("n24 d5:1 d06:2", NONE);
        page("n24 d10:1 d9:2", 12);
        page("n24 d9:1 d10:2", NONE);
        page("n24 d22:0d23:0", NONE);
        page("n24 d23:0d23:0", 12);
        page("n24 d23:0d24:0", 12);
        page("n24 d0:0d1:0d2:0d1:0", 18);
        page("n24 d0:0d23:0d0:0", 15);
    }

    private static void justOneN() {
        page("n3n3", 2);
        page("n3 n3", 3);
        page("n3 d0:1 n3", 8);
        page("n3 d0:1 n", 8);
        page("n3d0:1d2:1n4", 10);
        page("n24n1", 3);
        page("nn", 1);
    }

    private static void noN() {
        page(" ", 1);
        page("d0:1", 0);
        page("   d0:1", 3);
        page("d0:1 n3", 0);
        page("x", 0);
        page("y", 0);
        page("3", 0);
    }

    private static void blanksWithinLines() {
        page("n 3", 1);
        page("n2 4", 3);
        page("n3 d 1:1", 4);
        page("n3 d1 :1", 5);
        page("n3 d1: 1", 6);
        page("n24 d1 2:1", 6);
        page("n3d1:1d2:1", NONE);
        page("   n3   d1:1   d2:1   ", NONE);
        page("n3" + (char) 9, 2);
    }

    private static void pageEndsTooEarly() {
        String whole = "n24 d23:3";
        int[] due = {0, 1, NONE, NONE, NONE, 5, 6, 7, 8, NONE};
        for (int n = 0; n <= whole.length(); n++) page(whole.substring(0, n), due[n]);
        page("n3 d1:1 d", 9);
        page("n3 d1:1 d2", 10);
        page("n3 d1:1 d2:", 11);
        page("n3 y", 3);
        page("n3 5", 3);
        page("n3 :", 3);
        page("n3 d1:1 1", 8);
    }

    private static String everyDay(int days) {
        StringBuilder signs = new StringBuilder("n24");
        for (int d = 0; d < days; d++) signs.append('d').append(d).append(':').append(d % 4);
        return signs.toString();
    }

    private static void pageOfFullLength() {
        String all = everyDay(24);
        page(all, NONE);
        page(all + blanks(7), NONE);
        page(blanks(7) + all, NONE);
        page(all + "d23:1", all.length() + 3);
        page(all + "d0:1", all.length() + 2);
        page(all + "d24:1", all.length() + 3);
        page(all + "n", all.length());
        page(all + "x", all.length());
        page(all + "d", all.length() + 1);
        page(all + blanks(6) + "x", 119);
        page(all + blanks(6) + "d", 120);
        page(everyDay(23), NONE);
        page(blanks(118) + "n1", NONE);
        page(blanks(119) + "n", 120);
        page(blanks(118) + "n0", 120);
    }

    /** Bytes below 0 are no signs, nor ends, even those whose numbers are answers. */
    private static void bytesThatAreNoSigns() {
        Witness w = new Witness("10 fault: bytes below 0, and those that are cut to signs");
        w.text(0, "y ").text(1, "n3 ");
        for (int b : new int[] {-9, -1, -128, 0}) {
            w.texts[0][1] = (byte) b;
            w.quick(1000 + (b == -9 ? 32 : b == -1 ? -9 : b == -128 ? -1 : -128), "put", 0, 1, b);
            w.is(1, "fault", 0, 0);
            w.refuses(STATE, "rule", 0, 0);
            w.texts[1][2] = (byte) b;
            w.quick(1000 + (b == -9 ? 32 : b == -1 ? -9 : b == -128 ? -1 : -128), "put", 1, 2, b);
            w.is(2, "fault", 1, 1);
            w.refuses(STATE, "page", 0, 1);
        }
        w.texts[0][1] = 'y';
        w.is(1000, "put", 0, 1, 'y' - 256);
        w.rules[0] = Witness.these(4, 4);
        w.is(2, "rule", 0, 0);
        w.texts[1][2] = '2';
        w.is(1000, "put", 1, 2, '2' + 1024);
        w.is(3, "fault", 1, 1);
    }

    private static void faultRefused() {
        for (int page = 0; page < 2; page++) {
            Witness w = new Witness("10 fault: texts are 0 .. 3; NOTHING: missing; NONE tells nothing by asked()");
            w.row(0, 7).text(1, "y").text(3, "n1");
            w.tells(1, 7, "at", 0, 0);
            w.is(page == 0 ? NONE : 0, "fault", 1, page);
            w.is(page == 0 ? 0 : NONE, "fault", 3, page);
            w.refusesEach(BAD, 0, NO_FOURTH, "fault", 0, page);
            w.findsEach(NOTHING, 0, Witness.these(0, 2), "fault", 0, page);
        }
    }

    // ---- 11

    private static void ruleRefused() {
        Witness w = new Witness("11 rule: BAD; NOTHING; STATE behind NOTHING; a refused one stays");
        w.rule(0, "c1 y").text(1, "y").text(3, "c");
        w.refusesEach(BAD, 0, NO_FOURTH, "rule", 0, 1);
        w.refusesEach(BAD, 1, NO_FOURTH, "rule", 0, 1);
        w.refusesEach(BAD, 0, NO_FOURTH, "rule", 0, 2);
        w.refusesEach(BAD, 0, NO_FOURTH, "rule", 0, 3);
        w.finds(NOTHING, "rule", 0, 2);
        w.finds(NOTHING, "rule", 3, 2);
        w.refuses(STATE, "rule", 0, 3);
        w.refuses(STATE, "rule", 3, 3);
        w.finds(NOTHING, "clause", 3, 0);
        for (int k = 0; k < 4; k++) {
            w.rules[k] = Witness.these(4);
            w.is(1, "rule", k, 1);
        }
    }

    private static void ruleAnew() {
        Witness w = new Witness("11 rule: anew; how many clauses, 0 to 4; the text may change behind");
        String[] texts = {"c0 c1 c2 c3", "", "a3:3", "  s9:3 b7 ", "y y y", "y"};
        for (String signs : texts) {
            w.text(2, signs);
            w.rules[1] = Witness.numbers(signs);
            w.is(w.rules[1].length, "rule", 1, 2);
            w.finds(BEYOND, "clause", 1, w.rules[1].length);
        }
        w.texts[2][0] = 'x';
        w.is(1121, "put", 2, 0, 'x');
        w.tells(4, 5, "clause", 1, 0);
    }

    // ---- 12

    private static void numberedNumbers() {
        int[] numbers = {0, 3, 4, 5, 10, 11, 42, 43, 57, 58, 59, 60, 117, 118, 119, 3480, 3481, 3538, 3539};
        Witness w = new Witness("12 numbered: 0 .. 58 of one clause, 59 .. 3539 of two");
        for (int number : numbers) {
            int first = number < 59 ? number : (number - 59) / 59;
            w.rules[3] = number < 59 ? Witness.these(first) : Witness.these(first, (number - 59) % 59);
            w.is(number < 59 ? 1 : 2, "numbered", 3, number);
        }
        w = new Witness("12 numbered: anew");
        w.rule(0, "yyyy");
        w.rules[0] = Witness.these(58);
        w.is(1, "numbered", 0, 58);
        w.finds(BEYOND, "clause", 0, 1);
        w.rules[0] = Witness.these(0, 0);
        w.is(2, "numbered", 0, 59);
        w.rules[0] = Witness.these(58, 58);
        w.is(2, "numbered", 0, 3539);
        w.finds(BEYOND, "clause", 0, 2);
    }

    private static void numberedRefused() {
        Witness w = new Witness("12 numbered: BAD: no such rule, no such number");
        w.numbered(0, 77);
        w.refusesEach(BAD, 1, Witness.these(-1, 3540, 3541, LOW, HIGH), "numbered", 0, 0);
        w.refusesEach(BAD, 0, NO_FOURTH, "numbered", 0, 0);
        w.refuses(BAD, "numbered", 4, 3540);
        for (int k = 0; k < 4; k++) {
            w.rules[k] = Witness.these(k);
            w.is(1, "numbered", k, k);
        }
    }

    // ---- 13

    private static void pageRefused() {
        Witness w = new Witness("13 page: BAD; NOTHING; STATE behind NOTHING; a refused one stays");
        w.page(0, "n5 d2:3").text(3, "n3 d3:1").text(0, "n9");
        w.refusesEach(BAD, 0, NO_FOURTH, "page", 0, 1);
        w.refusesEach(BAD, 1, NO_FOURTH, "page", 0, 1);
        w.refusesEach(BAD, 0, NO_FOURTH, "page", 0, 2);
        w.refusesEach(BAD, 0, NO_FOURTH, "page", 0, 3);
        w.finds(NOTHING, "page", 0, 2);
        w.finds(NOTHING, "page", 3, 2);
        w.refuses(STATE, "page", 0, 3);
        w.refuses(STATE, "page", 3, 3);
        w.finds(NOTHING, "line", 3, 0);
        for (int k = 0; k < 4; k++) {
            w.pages[k] = Witness.these(9);
            w.is(0, "page", k, 0);
        }
    }

    private static void pageAnew() {
        Witness w = new Witness("13 page: anew; how many lines; the text may change behind");
        String[] texts = {"n24 d0:3 d09:1 d23:0", "n1", "n1 d0:0", "n12 d11:3", "n2 d0:1 d1:1"};
        for (String signs : texts) {
            w.text(2, signs);
            w.pages[1] = Witness.lines(signs);
            w.is(w.pages[1].length / 2, "page", 1, 2);
            w.finds(BEYOND, "line", 1, w.pages[1].length / 2);
        }
        w.texts[2][0] = 'x';
        w.is(1110, "put", 2, 0, 'x');
        w.tells(1, 1, "line", 1, 1);
        w = new Witness("13 page: all 24 days have lines");
        w.text(2, everyDay(24));
        w.pages[0] = Witness.lines(everyDay(24));
        w.is(24, "page", 0, 2);
        w.tells(0, 0, "line", 0, 0);
        w.tells(23, 3, "line", 0, 23);
        w.finds(BEYOND, "line", 0, 24);
    }

    // ---- 14

    private static int kindOf(int number) {
        return "-cbsay".indexOf(Witness.CLAUSES.get(number).charAt(0));
    }

    private static void clauseNumbersAndKinds() {
        for (int from = 0; from < 59; from += 20) {
            Witness w = new Witness("14 clause: its NUMBER, 0 .. 58; its KIND by asked(), 1 .. 5");
            for (int number = from; number < Math.min(59, from + 20); number++) {
                w.numbered(2, number);
                w.tells(number, kindOf(number), "clause", 2, 0);
            }
        }
        for (String clause : new String[] {"c0", "c3", "y", "b2", "b7", "s2:0", "s2:3", "s9:0", "s9:3", "a0:0", "a3:3"}) {
            Witness w = new Witness("14 clause: the NUMBER of " + clause + ", by a text");
            w.rule(0, "y y y " + clause);
            int number = Witness.CLAUSES.indexOf(clause);
            w.tells(number, kindOf(number), "clause", 0, 3);
        }
    }

    private static void clausePlaces() {
        Witness w = new Witness("14 clause: BAD; NOTHING; BEYOND: any i that is none");
        w.rule(0, "c1 y b3 a1:2").rule(1, "").rule(3, "c2");
        w.tells(1, 1, "clause", 0, 0);
        w.tells(49, 4, "clause", 0, 3);
        w.findsEach(BEYOND, 1, Witness.these(-1, 4, 5, LOW, HIGH), "clause", 0, 0);
        w.findsEach(BEYOND, 1, Witness.these(-1, 0, LOW, HIGH), "clause", 1, 0);
        w.findsEach(BEYOND, 1, Witness.these(-1, 1), "clause", 3, 0);
        w.refusesEach(BAD, 0, NO_FOURTH, "clause", 0, 0);
        w.refusesEach(BAD, 0, NO_FOURTH, "clause", 0, HIGH);
        w.finds(NOTHING, "clause", 2, 0);
        w.finds(NOTHING, "clause", 2, -1);
        w.finds(NOTHING, "clause", 2, HIGH);
    }

    // ---- 15

    /** What a clause tells of a KIND, by its signs; NONE: it is not of that KIND. */
    private static int mark(String clause, int kind) {
        char letter = clause.charAt(0);
        int figure = clause.length() > 1 ? clause.charAt(1) - '0' : 1;
        switch (kind) {
            case 1: return letter == 'y' || letter == 'b' ? NONE : clause.charAt(clause.length() - 1) - '0';
            case 2: return letter == 'y' || letter == 'b' ? figure : NONE;
            case 3: return letter == 's' ? figure : NONE;
            case 4: return letter == 'a' ? figure : NONE;
            default: return letter == 'y' ? 1 : NONE;
        }
    }

    private static void markOfEveryClause() {
        for (int number = 0; number < 59; number++) {
            Witness w = new Witness("15 mark: " + Witness.CLAUSES.get(number) + ", of each KIND");
            w.numbered(1, number);
            for (int kind = 1; kind <= 5; kind++) {
                int due = mark(Witness.CLAUSES.get(number), kind);
                if (due == NONE) w.finds(UNLIKE, "mark", 1, 0, kind);
                else w.is(due, "mark", 1, 0, kind);
            }
        }
    }

    private static void markRefused() {
        Witness w = new Witness("15 mark: BAD: KIND 0 too; NOTHING; BEYOND; UNLIKE, in this order");
        w.rule(0, "c3 y").rule(1, "");
        w.refusesEach(BAD, 2, Witness.these(-1, 0, 6, 7, LOW, HIGH), "mark", 0, 0, 1);
        w.refuses(BAD, "mark", 3, 0, 0);
        w.refuses(BAD, "mark", 3, 0, 6);
        w.refuses(BAD, "mark", 0, 9, 0);
        w.refuses(BAD, "mark", 0, -1, 6);
        w.refusesEach(BAD, 0, NO_FOURTH, "mark", 0, 0, 1);
        w.refusesEach(BAD, 0, NO_FOURTH, "mark", 0, 9, 5);
        w.finds(NOTHING, "mark", 3, 0, 1);
        w.finds(NOTHING, "mark", 3, -1, 5);
        w = new Witness("15 mark: BEYOND: any i that is none; ahead of UNLIKE");
        w.rule(0, "c3 y").rule(1, "");
        w.findsEach(BEYOND, 1, Witness.these(-1, 2, 3, LOW, HIGH), "mark", 0, 0, 1);
        w.findsEach(BEYOND, 1, Witness.these(-1, 2), "mark", 0, 0, 3);
        w.findsEach(BEYOND, 1, Witness.these(-1, 0, 1), "mark", 1, 0, 1);
        w.finds(UNLIKE, "mark", 0, 0, 2);
        w.finds(UNLIKE, "mark", 0, 1, 1);
        w.is(3, "mark", 0, 0, 1);
        w.is(1, "mark", 0, 1, 5);
    }

    // ---- 16

    private static void linePlaces() {
        Witness w = new Witness("16 line: its day; its WEATHER by asked(); BEYOND: any i that is none");
        w.page(3, "n24 d0:3 d5:0 d23:1").page(1, "n1");
        w.tells(0, 3, "line", 3, 0);
        w.tells(5, 0, "line", 3, 1);
        w.tells(23, 1, "line", 3, 2);
        w.findsEach(BEYOND, 1, Witness.these(-1, 3, 5, 23, 24, -9, LOW, HIGH), "line", 3, 0);
        w.findsEach(BEYOND, 1, Witness.these(-1, 0, 1, LOW, HIGH), "line", 1, 0);
        w.refusesEach(BAD, 0, NO_FOURTH, "line", 3, 0);
        w.refusesEach(BAD, 0, NO_FOURTH, "line", 3, 9);
        w.finds(NOTHING, "line", 0, 0);
        w.finds(NOTHING, "line", 0, -1);
        w.finds(NOTHING, "line", 2, HIGH);
    }

    // ---- 17

    private static void expectsSizes() {
        Witness w = new Witness("17 expects: of days 0 .. 23; SIZE: more than 23");
        w.rule(0, "c2");
        for (int size : new int[] {0, 1, 22, 23}) {
            w.alike(0, size, 0);
            w.tells(2, 0, "expects", 0, 0);
        }
        for (int size : new int[] {24, 25, 60}) {
            w.alike(0, size, 0);
            w.finds(SIZE, "expects", 0, 0);
        }
    }

    private static void expectsWeathers() {
        Witness w = new Witness("17 expects: UNLIKE: no WEATHER, anywhere in the row; behind SIZE");
        w.rule(0, "y");
        for (int v : new int[] {-1, 4, LOW, HIGH}) {
            w.row(0, v, 0, 0);
            w.finds(UNLIKE, "expects", 0, 0);
            w.row(0, 0, 0, v);
            w.finds(UNLIKE, "expects", 0, 0);
        }
        for (int v = 0; v < 4; v++) {
            w.row(0, 3, v);
            w.tells(v, 0, "expects", 0, 0);
        }
        w.alike(1, 23, 3);
        w.tells(3, 0, "expects", 0, 1);
        w = new Witness("17 expects: SIZE goes ahead of UNLIKE");
        w.rule(0, "y");
        w.alike(0, 24, 4);
        w.finds(SIZE, "expects", 0, 0);
        w.alike(0, 23, 4);
        w.finds(UNLIKE, "expects", 0, 0);
        w.row(0, 2, 4);
        w.row(0, 2);
        w.tells(2, 0, "expects", 0, 0);
    }

    private static void expectsBack() {
        for (int k = 1; k <= 7; k++) {
            Witness w = new Witness("17 expects: as " + k + " days ahead, if there is a day so far ahead");
            w.rule(0, k == 1 ? "y" : "b" + k).rule(1, k == 1 ? "y c1" : "b" + k + " c1");
            int[] days = new int[k];
            days[0] = 3;
            w.row(0, Arrays.copyOf(days, k - 1));
            w.tells(0, NONE, "expects", 0, 0);
            w.tells(1, 1, "expects", 1, 0);
            w.row(0, days);
            w.tells(3, 0, "expects", 0, 0);
            w.tells(3, 0, "expects", 1, 0);
            int[] later = new int[k + 1];
            later[1] = 2;
            w.row(0, later);
            w.tells(2, 0, "expects", 0, 0);
            int[] last = new int[23];
            last[23 - k] = 1;
            w.row(0, last);
            w.tells(1, 0, "expects", 0, 0);
        }
    }

    private static void expectsEach() {
        for (int k = 2; k <= 9; k++) {
            Witness w = new Witness("17 expects: on each day whose number is a multiple of " + k);
            w.rule(0, "s" + k + ":3").rule(1, "s" + k + ":0 c2");
            for (int d : new int[] {0, 1, k - 1, k, k + 1, 2 * k - 1, 2 * k, 23 / k * k}) {
                boolean such = d % k == 0;
                w.alike(0, d, 1);
                w.tells(such ? 3 : 0, such ? 0 : NONE, "expects", 0, 0);
                w.tells(such ? 0 : 2, such ? 0 : 1, "expects", 1, 0);
            }
        }
    }

    private static void expectsAfter() {
        for (int u = 0; u < 4; u++) {
            Witness w = new Witness("17 expects: behind a day of WEATHER " + u + ", not on day 0");
            w.rule(0, "a" + u + ":3").rule(1, "a" + u + ":0 c2");
            w.row(0);
            w.tells(0, NONE, "expects", 0, 0);
            w.tells(2, 1, "expects", 1, 0);
            for (int v = 0; v < 4; v++) {
                w.row(0, (v + 1) % 4, v);
                w.tells(v == u ? 3 : 0, v == u ? 0 : NONE, "expects", 0, 0);
                w.tells(v == u ? 0 : 2, v == u ? 0 : 1, "expects", 1, 0);
            }
        }
    }

    private static void expectsFirstClause() {
        Witness w = new Witness("17 expects: the first clause that can tell it, 0 .. 3; else 0 and NONE");
        w.rule(0, "b7 b6 a3:2 s5:1").rule(1, "");
        w.row(0);
        w.tells(1, 3, "expects", 0, 0);
        w.tells(0, NONE, "expects", 1, 0);
        w.row(0, 3);
        w.tells(2, 2, "expects", 0, 0);
        w.row(0, 3, 0);
        w.tells(0, NONE, "expects", 0, 0);
        w.row(0, 2, 0, 0, 0, 0, 3);
        w.tells(2, 1, "expects", 0, 0);
        w.row(0, 0, 3, 0, 0, 0, 0, 3);
        w.tells(0, 0, "expects", 0, 0);
        w.alike(0, 23, 3);
        w.tells(0, NONE, "expects", 1, 0);
    }

    private static void expectsOrder() {
        Witness w = new Witness("17 expects: BAD; NOTHING: either; then SIZE, UNLIKE");
        w.rule(0, "y").row(0, 1).alike(1, 24, 0).row(2, 4);
        w.refusesEach(BAD, 0, NO_FOURTH, "expects", 0, 0);
        w.refusesEach(BAD, 1, NO_ROWS, "expects", 0, 0);
        w.refuses(BAD, "expects", 4, 5);
        w.refuses(BAD, "expects", 3, 6);
        w.refuses(BAD, "expects", -1, 1);
        w.refuses(BAD, "expects", -1, 2);
        w.findsEach(NOTHING, 0, Witness.these(1, 2, 3), "expects", 0, 0);
        w.findsEach(NOTHING, 1, Witness.these(3, 4, 5), "expects", 0, 0);
        w.finds(NOTHING, "expects", 3, 5);
        w.finds(NOTHING, "expects", 3, 1);
        w.finds(NOTHING, "expects", 3, 2);
        w.tells(1, 0, "expects", 0, 0);
    }
}
