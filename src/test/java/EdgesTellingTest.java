/** Promises 42 to 48, each sentence that names a boundary: what is told. */
public final class EdgesTellingTest {
    private static final int BAD = Witness.BAD, FULL = Witness.FULL, STATE = Witness.STATE;
    private static final int SPENT = Witness.SPENT, NONE = Witness.NONE;
    private static final int NOTHING = Witness.NOTHING, BEYOND = Witness.BEYOND, UNLIKE = Witness.UNLIKE;
    private static final int NOUGHT = Witness.NOUGHT, SIZE = Witness.SIZE;
    private static final int LOW = Witness.LOW, HIGH = Witness.HIGH;
    /** By no rule of one clause is it possible. */
    private static final String BY_NONE_OF_ONE = "n5d0:0d1:0d2:2d3:1d4:3";

    public static void main(String[] args) {
        askedBefore();
        askedBehindEachThatTells();
        askedBehindTheOthers();
        askedBehindRefusedOnes();
        askedBehindNone();
        askedTwice();
        fractionBefore();
        fractionToldLast();
        fractionBehindRefusedOnes();
        countNumbers();
        countNothing();
        countAll();
        countPlain();
        countDaysRead();
        findingBefore();
        findingLatest();
        findingBehindOtherRefusals();
        findingsNumbers();
        findingsOften();
        digestOfNothing();
        digestMissingOrEmpty();
        digestOfEachPart();
        digestOfAll();
        digestWrapsAround();
        digestOfWhatIsNotTold();
        the512thCall();
        Due.end();
    }

    /** Rule 0 'y', rule 1 'c1'; page 0 of 6 days; row 0 its days by rule 0; 7 by asked(), from row 4. */
    private static Witness chronicle(String part) {
        Witness w = new Witness(part);
        w.rule(0, "y").rule(1, "c1").page(0, "n6 d1:2 d4:3");
        w.row(4, 7).row(0, 0, 2, 2, 2, 3, 3);
        w.tells(1, 7, "at", 4, 0);
        return w;
    }

    // ---- 42

    private static void askedBefore() {
        Witness w = new Witness("42 asked: 0 before, behind refused ones, too");
        w.is(0, "asked");
        w.refuses(BAD, "at", 6, 0);
        w.finds(NOTHING, "at", 0, 0);
        w.refuses(STATE, "read");
        w.rows[0] = new int[3];
        w.is(3, "row", 0, 3);
        w.is(0, "asked");
    }

    /** Each of the seventeen calls, between calls of at() that tell 7. */
    private static void askedBehindEachThatTells() {
        Witness w = chronicle("42 asked: each call that tells by it");
        w.rows[4][0] = 7;
        w.tells(1, 7, "lay", 4, 0, 7);
        w.tells(1, 2, "mean", 0);
        w.tells(4, 5, "clause", 0, 0);
        w.tells(1, 2, "line", 0, 0);
        w.tells(3, 0, "expects", 0, 0);
        w.rows[5] = Witness.these(1, 2, 1, 1, 3, 1);
        w.tells(6, 0, "days", 1, 0, 5);
        w.tells(1, 7, "at", 4, 0);
        w.tells(2, 4, "fewest", 0, 1);
        w.read = new int[0];
        w.is(6, "open", 0, 0);
        w.read = Witness.these(0);
        w.tells(0, 0, "read");
        w.read = Witness.these(0, 2);
        w.tells(2, 1, "read");
        w.page(1, "n1 d0:0");
        w.tells(27, 1, "rules", 1, 1);
        w.tells(0, 27, "ask", 1, 1);
        w.tells(27, 1, "left", 1, 1);
        w.tells(7, 0, "changed", 0, 0, 0, 0);
        w.tells(45, 6, "joined", 0, 0, 1, 0);
        w.tells(3, 3, "follows", 0, 0, 0);
        w.know(0, 1);
        w.tells(0, 1, "forbids", 0, 0);
        w.tells(1, 7, "at", 4, 0);
        w.tells(0, NONE, "suspects", 0, 0);
    }

    private static void askedBehindTheOthers() {
        Witness w = chronicle("42 asked: the calls that tell nothing by it");
        w.rows[5] = new int[2];
        w.is(2, "row", 5, 2);
        w.rows[5] = Witness.these(2, 2);
        w.is(1, "copy", 0, 1, 5, 0, 2);
        w.rows[5] = null;
        w.is(1, "tear", 5);
        w.texts[3] = new byte[] {32};
        w.is(1, "text", 3, 1);
        w.texts[3][0] = 'y';
        w.is(1032, "put", 3, 0, 'y');
        w.is(NONE, "fault", 3, 0);
        w.is(0, "fault", 3, 1);
        w.rules[3] = Witness.these(4);
        w.is(1, "rule", 3, 3);
        w.rules[3] = Witness.these(5);
        w.is(1, "numbered", 3, 5);
        w.pages[3] = Witness.these(6, 1, 2, 4, 3);
        w.is(2, "page", 3, 1);
        w.is(1, "mark", 0, 0, 5);
        w.is(2, "write", 0, 0, 3);
        w.is(1, "many", 0, 1);
        w.read = new int[0];
        w.is(6, "open", 0, 0);
        w.is(0, "keep", 0);
        w.is(0, "on", 0);
        w.is(1, "worlds", 0, 0, 0, 1, 0);
        w.is(63, "sure", 0, 0, 0, 1, 0);
        w.is(1, "can", 0, 0, 0, 1, 0, 0);
        w.is(18, "agree", 0, 1);
        w.is(127, "when", 0, 0, 0, 0);
        w.known.add(Witness.these(0, 0));
        w.is(0, "know", 0, 0);
        w.known.clear();
        w.is(1, "forget", 0);
        w.is(2, "count", 1);
        w.is(0, "findings", 1);
    }

    private static void askedBehindRefusedOnes() {
        Witness w = chronicle("42 asked: not by one that was refused");
        w.row(1, 4).row(2);
        w.tells(1, 7, "at", 4, 0);
        w.finds(BEYOND, "lay", 0, 6, 1);
        w.finds(BEYOND, "at", 0, 6);
        w.finds(NOUGHT, "mean", 2);
        w.finds(BEYOND, "clause", 0, 1);
        w.finds(BEYOND, "line", 0, 2);
        w.finds(UNLIKE, "expects", 0, 1);
        w.finds(NOTHING, "days", 0, 3, 0);
        w.finds(UNLIKE, "fewest", 1, 1);
        w.refuses(STATE, "read");
        w.finds(NOTHING, "rules", 3, 1);
        w.page(1, BY_NONE_OF_ONE);
        w.finds(NOUGHT, "ask", 1, 1);
        w.finds(NOTHING, "left", 3, 1);
        w.finds(SIZE, "changed", 0, 0, 0, 1);
        w.finds(NOTHING, "joined", 0, 0, 0, 3);
        w.finds(BEYOND, "follows", 0, 0, 2);
        w.finds(NOTHING, "forbids", 3, 0);
        w.finds(NOTHING, "suspects", 0, 3);
        w.refuses(BAD, "suspects", 0, 4);
    }

    private static void askedBehindNone() {
        Witness w = chronicle("42 asked: not by a call that answered NONE; NONE itself may be told");
        w.is(NONE, "forbids", 0, 0);
        w.tells(1, 7, "at", 4, 0);
        w.page(1, BY_NONE_OF_ONE);
        w.tells(0, NONE, "rules", 1, 1);
        w.is(NONE, "forbids", 0, 0);
        w.tells(1, 7, "at", 4, 0);
        w.tells(0, NONE, "left", 1, 1);
        w.rule(2, "");
        w.tells(0, NONE, "expects", 2, 0);
        w.tells(0, NONE, "changed", 1, 1, 0, 0);
    }

    private static void askedTwice() {
        Witness w = chronicle("42 asked: asking changes nothing");
        w.is(7, "asked");
        w.is(7, "asked");
    }

    // ---- 43, 44

    private static void fractionBefore() {
        Witness w = new Witness("43 upper, 44 lower: 0 by 1 before");
        w.is(0, "upper");
        w.is(1, "lower");
        w.refuses(BAD, "likely", 0, 1, 24, 0);
        w.finds(NOTHING, "likely", 0, 1, 0, 0);
    }

    private static void fractionToldLast() {
        Witness w = chronicle("43 upper, 44 lower: of the fraction that was told last");
        w.page(1, "n2 d0:0");
        w.fraction(24, 8, 9, "likely", 1, 1, 1, 0);
        w.tells(1, 24, "ask", 1, 1);
        w.tells(1, 2, "mean", 0);
        w.is(8, "upper");
        w.is(9, "lower");
        w.fraction(1, 1, 27, "likely", 1, 1, 1, 2);
        w.fraction(0, 0, 1, "likely", 1, 1, 0, 2);
        w.fraction(27, 1, 1, "likely", 1, 1, 0, 0);
        w.is(1, "upper");
        w.is(1, "lower");
    }

    private static void fractionBehindRefusedOnes() {
        Witness w = chronicle("43 upper, 44 lower: a refused one tells none");
        w.page(1, "n2 d0:0").page(2, BY_NONE_OF_ONE);
        w.fraction(24, 8, 9, "likely", 1, 1, 1, 0);
        w.refuses(BAD, "likely", 1, 1, 24, 0);
        w.refuses(BAD, "likely", 1, 1, 0, 4);
        w.finds(NOTHING, "likely", 3, 1, 0, 0);
        w.finds(BEYOND, "likely", 1, 1, 2, 0);
        w.finds(NOUGHT, "likely", 2, 1, 0, 0);
    }

    // ---- 45

    private static void countNumbers() {
        Witness w = chronicle("45 count: 0 .. 7; BAD: another one");
        int[] due = {2, 1, 2, 1, 0, 0, 2, 2};
        for (int what = 0; what < 8; what++) w.is(due[what], "count", what);
        w.refusesEach(BAD, 0, Witness.these(-1, 8, 9, LOW, HIGH), "count", 0);
    }

    private static void countNothing() {
        Witness w = new Witness("45 count: 0 of all, of what is there but empty, too");
        for (int what = 0; what < 8; what++) w.is(0, "count", what);
        w.rule(0, "").row(0).text(0, "");
        int[] due = {1, 0, 0, 0, 0, 0, 1, 1};
        for (int what = 0; what < 8; what++) w.is(due[what], "count", what);
        w.rows[0] = null;
        w.is(1, "tear", 0);
        w.is(0, "count", 6);
    }

    private static void countAll() {
        Witness w = new Witness("45 count: as many as there can be");
        w.page(0, "n24");
        for (int k = 1; k < 4; k++) {
            w.pages[k] = Witness.these(24);
            w.quick(0, "page", k, 1);
        }
        for (int k = 0; k < 4; k++) w.rule(k, "c1c1c1c1");
        for (int r = 0; r < 6; r++) w.row(r);
        for (int t = 2; t < 4; t++) w.text(t, "");
        for (int i = 0; i < 8; i++) w.know(i, 0);
        w.reading(0, 0, Witness.all(24, 1));
        int[] due = {4, 4, 16, 16, 8, 24, 6, 4};
        for (int what = 0; what < 8; what++) w.is(due[what], "count", what);
        w.refuses(FULL, "know", 0, 0);
        w.refuses(SPENT, "read");
        w.is(8, "count", 4);
        w.is(24, "count", 5);
    }

    private static void countPlain() {
        Witness w = new Witness("45 count: CLAUSES of all RULES, PLAIN ones (EACH, AFTER, too)");
        w.rule(0, "c1 y b2 s2:1").rule(1, "a1:1").rule(3, "y b7");
        w.is(7, "count", 2);
        w.is(3, "count", 3);
        w.rule(0, "y");
        w.is(4, "count", 2);
        w.is(1, "count", 3);
        w.numbered(1, 10);
        w.is(4, "count", 2);
        w.is(0, "count", 3);
        w.numbered(1, 3539);
        w.is(5, "count", 2);
        w.is(2, "count", 3);
    }

    private static void countDaysRead() {
        Witness w = chronicle("45 count: days read in the READING (0: none)");
        w.is(0, "count", 5);
        w.reading(0, 0);
        w.is(0, "count", 5);
        w.reading(0, 0, 0, 2, 2, 2, 3, 3);
        w.is(6, "count", 5);
        w.refuses(SPENT, "read");
        w.is(6, "count", 5);
        w.is(6, "keep", 2);
        w.read = new int[0];
        w.is(6, "open", 0, 0);
        w.is(0, "count", 5);
        w.read = Witness.these(0, 2, 2, 2, 3, 3);
        w.is(6, "on", 2);
        w.is(6, "count", 5);
    }

    // ---- 46, 47

    private static void findingBefore() {
        Witness w = new Witness("46 finding: 0 before any, other refusals behind it, too");
        w.is(0, "finding");
        w.refuses(BAD, "row", 6, 0);
        w.refuses(STATE, "read");
        w.is(0, "finding");
    }

    private static void findingLatest() {
        Witness w = chronicle("46 finding: the latest one, 1 .. 5");
        w.row(1);
        w.finds(NOTHING, "tear", 5);
        w.is(1, "finding");
        w.finds(BEYOND, "at", 1, 0);
        w.is(2, "finding");
        w.finds(UNLIKE, "mark", 0, 0, 1);
        w.is(3, "finding");
        w.finds(NOUGHT, "mean", 1);
        w.is(4, "finding");
        w.finds(SIZE, "row", 0, -1);
        w.is(5, "finding");
        w.finds(NOTHING, "tear", 5);
        w.is(1, "finding");
        w.is(1, "finding");
    }

    private static void findingBehindOtherRefusals() {
        Witness w = chronicle("46 finding: other refusals, NONE and good answers do not change it");
        w.finds(SIZE, "row", 0, LOW);
        w.refuses(BAD, "row", 0, 61);
        w.refuses(STATE, "read");
        w.is(NONE, "forbids", 0, 0);
        w.text(2, "x");
        w.refuses(STATE, "rule", 0, 2);
        w.refuses(STATE, "page", 0, 2);
        w.reading(0, 0, 0, 2, 2, 2, 3, 3);
        w.refuses(SPENT, "read");
        for (int i = 0; i < 8; i++) w.know(0, 0);
        w.refuses(FULL, "know", 0, 0);
        w.tells(1, 7, "at", 4, 0);
        w.is(5, "finding");
    }

    private static void findingsNumbers() {
        Witness w = chronicle("47 findings: 1 .. 5; BAD: another one, which is no finding itself");
        w.finds(SIZE, "row", 0, -1);
        w.refusesEach(BAD, 0, Witness.these(0, -1, 6, 7, LOW, HIGH), "findings", 1);
        int[] due = {0, 0, 0, 0, 0, 1};
        for (int f = 1; f <= 5; f++) w.is(due[f], "findings", f);
    }

    private static void findingsOften() {
        Witness w = chronicle("47 findings: how often each was answered");
        w.row(1);
        for (int i = 0; i < 5; i++) w.quick(-3, "tear", 5);
        for (int i = 0; i < 4; i++) w.quick(-3, "at", 1, i);
        for (int i = 0; i < 3; i++) w.quick(-3, "mark", 0, 0, 1);
        for (int i = 0; i < 2; i++) w.quick(-3, "mean", 1);
        w.quick(-3, "text", 0, -1);
        for (int f = 1; f <= 5; f++) w.quick(6 - f, "findings", f);
        w = new Witness("47 findings: as often as an object is used");
        for (int i = 0; i < 400; i++) w.quick(-3, "text", 0, -1);
        w.quick(400, "findings", SIZE);
        w.quick(0, "findings", NOUGHT);
    }

    // ---- 48

    private static long fold(long... all) {
        long h = 17;
        for (long v : all) h = 31 * h + v;
        return h;
    }

    private static void digestOfNothing() {
        Witness w = new Witness("48 digest: of a new object");
        w.is(fold(0, 0, 0, 0, 0, 0, 0, 0, -1, -1, -1, -1, -1, -1, -1, -1, -1, -1, -1, -1, -1, -1, -1, -1, -1, -1, -1), "digest");
    }

    private static void digestMissingOrEmpty() {
        Witness w = new Witness("48 digest: -1 once for what is missing; what is empty is not missing");
        w.rule(2, "");
        w.is(fold(1, 0, 0, 0, 0, 0, 0, 1, -1, -1, -1, -1, -1, -1, -1, -1, -1, -1, -1, -1, -1, -1, 0, -1, -1, -1), "digest");
        w.row(1);
        w.is(fold(1, 0, 0, 0, 0, 0, 1, 1, -1, -1, -1, -1, -1, -1, -1, -1, -1, 0, -1, -1, -1, -1, 0, -1, -1, -1), "digest");
        w.page(0, "n1");
        w.is(fold(1, 1, 0, 0, 0, 0, 1, 2, -1, -1, -1, 1, -1, -1, -1, -1, -1, 0, -1, -1, -1, -1, 0, 2, 'n', '1', -1, -1), "digest");
        w.reading(2, 0);
        w.is(fold(1, 1, 0, 0, 0, 0, 1, 2, -1, -1, -1, 1, -1, -1, -1, -1, 0, -1, -1, -1, -1, 0, 2, 'n', '1', -1, -1), "digest");
        w.reading(2, 0, 0);
        w.is(fold(1, 1, 0, 0, 0, 1, 1, 2, -1, -1, -1, 1, -1, -1, -1, 0, -1, 0, -1, -1, -1, -1, 0, 2, 'n', '1', -1, -1), "digest");
    }

    /** Each place of each kind has its own place among the numbers. */
    private static void digestOfEachPart() {
        for (int k = 0; k < 4; k++) {
            Witness w = new Witness("48 digest: each RULE, PAGE, TEXT");
            w.numbered(k, 3539);
            w.look("numbered");
            w = new Witness("48 digest: each RULE, PAGE, TEXT");
            w.page(k, "n24 d0:3 d23:0");
            w.look("page");
            w.text(k, "zz");
            w.look("text");
        }
        for (int r = 0; r < 6; r++) {
            Witness w = new Witness("48 digest: each ROW");
            w.row(r, -5, HIGH, LOW);
            w.look("row");
        }
        Witness w = new Witness("48 digest: what is KNOWN, one by one");
        for (int i = 0; i < 8; i++) {
            w.know(23 - i, i % 4);
            w.look("know");
        }
    }

    private static void digestOfAll() {
        Witness w = new Witness("48 digest: in the document's order");
        w.rule(1, "y a0:0").page(3, "n3 d1:2").know(7, 3).reading(1, 3, 0, 2).row(4, 9, -9).row(5);
        w.texts[0] = new byte[] {32, -56};
        w.quick(2, "text", 0, 2);
        w.quick(1032, "put", 0, 1, 200);
        w.texts[1] = new byte[0];
        w.quick(0, "text", 1, 0);
        w.is(fold(1, 1, 2, 1, 1, 2, 2, 2, -1, 4, 43, -1, -1, -1, -1, -1, 3, 1, 2, 7, 3, 0, 2,
                -1, -1, -1, -1, 2, 9, -9, 0, 2, 32, -56, 0, -1, -1), "digest");
    }

    private static void digestWrapsAround() {
        Witness w = new Witness("48 digest: wraps around as longs do");
        for (int r = 0; r < 2; r++) w.alike(r, 60, r == 0 ? HIGH : LOW);
        w.look("rows of the ends of ints");
        w.texts[3] = new byte[120];
        w.quick(120, "text", 3, 120);
        for (int i = 0; i < 120; i++) {
            w.texts[3][i] = (byte) (i % 2 == 0 ? -128 : 127);
            w.quick(1032, "put", 3, i, i % 2 == 0 ? 128 : -129);
        }
        w.look("a text of the ends of bytes");
    }

    private static void digestOfWhatIsNotTold() {
        Witness w = chronicle("48 digest: what is kept, the days not read yet, asked() and findings are not in it");
        w.reading(0, 0, 0);
        w.is(1, "keep", 0);
        w.is(1, "keep", 2);
        w.is(1, "on", 0);
        w.finds(BEYOND, "at", 4, 1);
        w.tells(3, 3, "follows", 0, 0, 0);
        w.page(1, "n1 d0:2");
        w.fraction(50, 1, 1, "likely", 1, 1, 0, 2);
    }

    private static void the512thCall() {
        Witness w = chronicle("1 .. 48: an object is used for 512 calls, the last one too");
        w.reading(0, 0, 0, 2);
        while (w.calls() < 512 - 11) w.quick(1, "at", 4, 0);
        w.read = Witness.these(0, 2, 2);
        w.tells(2, 0, "read");
        Due.same("calls", w.calls(), 512);
    }
}
