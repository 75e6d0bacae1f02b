/** Promises 1 to 9, each sentence that names a boundary: new objects, rows, texts' bytes. */
public final class EdgesRowsTest {
    private static final int BAD = Witness.BAD, STATE = Witness.STATE;
    private static final int NOTHING = Witness.NOTHING, BEYOND = Witness.BEYOND, NOUGHT = Witness.NOUGHT;
    private static final int SIZE = Witness.SIZE;
    private static final int LOW = Witness.LOW, HIGH = Witness.HIGH;
    private static final int[] NO_ROWS = {-1, 6, 7, LOW, HIGH}, NO_TEXTS = {-1, 4, 5, LOW, HIGH};

    public static void main(String[] args) {
        newObjectTells();
        newObjectHasNothing();
        newObjectsShareNothing();
        rowsThatThereAre();
        rowSizes();
        rowBadAheadOfSize();
        rowAnew();
        rowRefusedStays();
        placesOfRows("3 lay", "lay");
        placesOfRows("4 at", "at");
        layTellsWhatItWas();
        atTellsAnyInt();
        placesBehindAShorterEnd();
        tearRows();
        tearTwice();
        copyCounts();
        copyPlaces();
        copyOfNone();
        copyEnds();
        copyOverItself();
        copyMissing();
        copyOrder();
        meanCuts();
        meanOfFar();
        meanRefused();
        textsThatThereAre();
        textSizes();
        textAnew();
        putPlaces();
        putCutsToAByte();
        putOrder();
        Due.end();
    }

    // ---- 1

    private static void newObjectTells() {
        Witness w = new Witness("1 a new object: 0 by asked(), 0 by 1, no finding, no count");
        w.look("OtherwiseBook()");
        for (int what = 0; what < 8; what++) w.is(0, "count", what);
    }

    private static void newObjectHasNothing() {
        Witness w = new Witness("1 a new object: no rows, texts, rules, pages, reading, nothing known");
        for (int r = 0; r < 6; r++) w.finds(NOTHING, "tear", r);
        for (int t = 0; t < 4; t++) w.finds(NOTHING, "fault", t, 0);
        for (int k = 0; k < 4; k++) w.finds(NOTHING, "clause", k, 0);
        for (int k = 0; k < 4; k++) w.finds(NOTHING, "line", k, 0);
        for (int k = 0; k < 3; k++) w.finds(NOTHING, "on", k);
        w.refuses(STATE, "read");
        for (int k = 0; k < 3; k++) w.refuses(STATE, "keep", k);
        w.is(0, "forget", 0);
        w.refuses(BAD, "forget", 1);
    }

    private static void newObjectsShareNothing() {
        Witness one = new Witness("1 a new object: objects share nothing");
        Witness other = new Witness("1 a new object: objects share nothing");
        one.rule(0, "c1").page(0, "n3 d1:2").row(0, 1, 2, 3).know(4, 3).reading(0, 0, 1, 2);
        one.finds(BEYOND, "at", 0, 3);
        other.look("calls on another object");
        other.row(0, 7);
        one.look("calls on another object");
        one.tells(1, 1, "at", 0, 0);
        other.tells(1, 7, "at", 0, 0);
    }

    // ---- 2

    private static void rowsThatThereAre() {
        Witness w = new Witness("2 row: rows are 0 .. 5");
        for (int r = 0; r < 6; r++) {
            w.rows[r] = new int[r];
            w.is(r, "row", r, r);
        }
        w.refusesEach(BAD, 0, NO_ROWS, "row", 0, 3);
    }

    private static void rowSizes() {
        Witness w = new Witness("2 row: 0 to 60 ints; above BAD, below SIZE");
        int[] taken = {0, 1, 59, 60, 0};
        for (int n : taken) {
            w.rows[2] = new int[n];
            w.is(n, "row", 2, n);
        }
        w.rows[2] = new int[60];
        w.is(60, "row", 2, 60);
        w.refusesEach(BAD, 1, Witness.these(61, 62, 1000, HIGH), "row", 2, 0);
        w.findsEach(SIZE, 1, Witness.these(-1, -2, -60, LOW), "row", 2, 0);
    }

    private static void rowBadAheadOfSize() {
        Witness w = new Witness("2 row: BAD goes ahead of SIZE");
        for (int r : NO_ROWS) w.refuses(BAD, "row", r, -1);
        for (int r : NO_ROWS) w.refuses(BAD, "row", r, LOW);
        for (int r : NO_ROWS) w.refuses(BAD, "row", r, 61);
        for (int r : NO_ROWS) w.refuses(BAD, "row", r, HIGH);
    }

    private static void rowAnew() {
        Witness w = new Witness("2 row: there with n ints 0, even if it was there");
        w.row(4, 7, -8, 9);
        w.rows[4] = new int[2];
        w.is(2, "row", 4, 2);
        w.rows[4] = new int[3];
        w.is(3, "row", 4, 3);
        for (int i = 0; i < 3; i++) w.tells(1, 0, "at", 4, i);
        w.alike(4, 60, 5);
        w.rows[4] = new int[0];
        w.is(0, "row", 4, 0);
        w.rows[4] = new int[60];
        w.is(60, "row", 4, 60);
        w.tells(1, 0, "at", 4, 0);
        w.tells(1, 0, "at", 4, 59);
    }

    private static void rowRefusedStays() {
        Witness w = new Witness("2 row: a refused one leaves the row as it was");
        w.row(1, 4, 5, 6);
        w.refuses(BAD, "row", 1, 61);
        w.finds(SIZE, "row", 1, -1);
        w.tells(1, 6, "at", 1, 2);
        w.finds(SIZE, "row", 0, -1);
        w.finds(NOTHING, "at", 0, 0);
    }

    // ---- 3, 4

    private static int[] place(String name, int r, int i) {
        return name.equals("lay") ? Witness.these(r, i, 0) : Witness.these(r, i);
    }

    private static void placesOfRows(String part, String name) {
        Witness w = new Witness(part + ": places 0 .. size less 1, BEYOND on either side");
        w.alike(5, 60, 0).row(0, 0).row(1);
        w.tells(1, 0, name, place(name, 5, 0));
        w.tells(1, 0, name, place(name, 5, 59));
        w.findsEach(BEYOND, 1, Witness.these(-1, 60, 61, LOW, HIGH), name, place(name, 5, 0));
        w.tells(1, 0, name, place(name, 0, 0));
        w.findsEach(BEYOND, 1, Witness.these(-1, 1), name, place(name, 0, 0));
        w.findsEach(BEYOND, 1, Witness.these(-1, 0, LOW, HIGH), name, place(name, 1, 0));
        w = new Witness(part + ": rows 0 .. 5; a missing one NOTHING, ahead of BEYOND");
        w.row(0, 3).row(5, 0);
        w.refusesEach(BAD, 0, NO_ROWS, name, place(name, 0, 0));
        w.refusesEach(BAD, 0, NO_ROWS, name, place(name, 0, 99));
        w.findsEach(NOTHING, 0, Witness.these(1, 2, 3, 4), name, place(name, 0, 0));
        w.findsEach(NOTHING, 0, Witness.these(1, 4), name, place(name, 0, -1));
        w.findsEach(NOTHING, 0, Witness.these(1, 4), name, place(name, 0, HIGH));
    }

    private static void layTellsWhatItWas() {
        Witness w = new Witness("3 lay: any int is laid; what it was is told by asked()");
        w.row(3, 0, 0);
        int[] laid = {1, -1, HIGH, LOW, 4, 0};
        int was = 0;
        for (int v : laid) {
            w.rows[3][1] = v;
            w.tells(1, was, "lay", 3, 1, v);
            was = v;
        }
        w.rows[3][0] = LOW;
        w.tells(1, 0, "lay", 3, 0, LOW);
        w.rows[3][0] = LOW;
        w.tells(1, LOW, "lay", 3, 0, LOW);
        w.finds(BEYOND, "lay", 3, 2, 9);
        w.refuses(BAD, "lay", 6, 0, 9);
        w.finds(NOTHING, "lay", 2, 0, 9);
    }

    private static void atTellsAnyInt() {
        Witness w = new Witness("4 at: told by asked(), even what looks like a refusal");
        w.row(0, LOW, -9, -3, -1, 0, HIGH);
        int[] due = {LOW, -9, -3, -1, 0, HIGH};
        for (int i = 0; i < due.length; i++) w.tells(1, due[i], "at", 0, i);
        w.finds(BEYOND, "at", 0, 6);
        w.finds(BEYOND, "at", 0, -1);
    }

    private static void placesBehindAShorterEnd() {
        Witness w = new Witness("3 lay, 4 at: of a shorter row the old places are BEYOND");
        w.alike(0, 9, 7);
        w.rows[0] = new int[2];
        w.is(2, "row", 0, 2);
        w.finds(BEYOND, "at", 0, 2);
        w.finds(BEYOND, "lay", 0, 2, 1);
        w.finds(BEYOND, "at", 0, 8);
        w.tells(1, 0, "at", 0, 1);
    }

    // ---- 5

    private static void tearRows() {
        Witness w = new Witness("5 tear: rows are 0 .. 5, an empty one too; NOTHING: missing");
        for (int r = 0; r < 6; r++) w.alike(r, 2 * r, r);
        w.refusesEach(BAD, 0, NO_ROWS, "tear", 0);
        for (int r = 0; r < 6; r++) {
            w.rows[r] = null;
            w.is(1, "tear", r);
        }
        for (int r = 0; r < 6; r++) w.finds(NOTHING, "tear", r);
    }

    private static void tearTwice() {
        Witness w = new Witness("5 tear: a torn row is missing for all calls, and comes anew with 0");
        w.row(2, 5, 6).row(3, 1, 1);
        w.numbered(0, 0);
        w.rows[2] = null;
        w.is(1, "tear", 2);
        w.finds(NOTHING, "tear", 2);
        w.finds(NOTHING, "at", 2, 0);
        w.finds(NOTHING, "lay", 2, 0, 1);
        w.finds(NOTHING, "mean", 2);
        w.finds(NOTHING, "copy", 2, 0, 3, 0, 1);
        w.finds(NOTHING, "copy", 3, 0, 2, 0, 1);
        w.finds(NOTHING, "expects", 0, 2);
        w.finds(NOTHING, "write", 0, 2, 0);
        w.finds(NOTHING, "fewest", 2, 1);
        w.finds(NOTHING, "many", 2, 1);
        w.rows[2] = new int[2];
        w.is(2, "row", 2, 2);
        w.tells(1, 0, "at", 2, 1);
    }

    // ---- 6

    private static void copyCounts() {
        Witness w = new Witness("6 copy: n from 0 to all; SIZE: n below 0; BEYOND: not so many");
        int[] counted = new int[60];
        for (int i = 0; i < 60; i++) counted[i] = i + 1;
        w.row(0, counted).alike(1, 60, 0);
        w.is(1, "copy", 0, 0, 1, 0, 0);
        w.rows[1] = counted.clone();
        w.is(1, "copy", 0, 0, 1, 0, 60);
        w.findsEach(SIZE, 4, Witness.these(-1, -60, LOW), "copy", 0, 0, 1, 0, 0);
        w.findsEach(BEYOND, 4, Witness.these(61, HIGH - 1, HIGH), "copy", 0, 0, 1, 0, 0);
    }

    private static void copyPlaces() {
        Witness w = new Witness("6 copy: the last place that fits, and one behind, on either row");
        w.row(0, 1, 2, 3, 4, 5).row(1, 9, 9, 9);
        w.rows[1] = Witness.these(4, 5, 9);
        w.is(1, "copy", 0, 3, 1, 0, 2);
        w.finds(BEYOND, "copy", 0, 4, 1, 0, 2);
        w.rows[1] = Witness.these(4, 1, 2);
        w.is(1, "copy", 0, 0, 1, 1, 2);
        w.finds(BEYOND, "copy", 0, 0, 1, 2, 2);
        w.findsEach(BEYOND, 1, Witness.these(-1, 5, 6, LOW, HIGH), "copy", 0, 0, 1, 0, 1);
        w.findsEach(BEYOND, 3, Witness.these(-1, 3, 4, LOW, HIGH), "copy", 0, 0, 1, 0, 1);
        w.rows[1] = Witness.these(4, 1, 5);
        w.is(1, "copy", 0, 4, 1, 2, 1);
        w.finds(BEYOND, "copy", 0, 0, 1, 0, 4);
        w.finds(BEYOND, "copy", 1, 0, 0, 0, 4);
    }

    private static void copyOfNone() {
        Witness w = new Witness("6 copy: none may be taken up to the end, of an empty row too");
        w.row(0, 1, 2).row(1);
        w.is(1, "copy", 0, 2, 0, 2, 0);
        w.is(1, "copy", 0, 0, 1, 0, 0);
        w.is(1, "copy", 1, 0, 0, 2, 0);
        w.is(1, "copy", 1, 0, 1, 0, 0);
        w.findsEach(BEYOND, 1, Witness.these(-1, 3, LOW, HIGH), "copy", 0, 0, 0, 0, 0);
        w.findsEach(BEYOND, 3, Witness.these(-1, 3, LOW, HIGH), "copy", 0, 0, 0, 0, 0);
        w.finds(BEYOND, "copy", 1, 0, 0, 0, 1);
        w.finds(BEYOND, "copy", 0, 0, 1, 0, 1);
    }

    private static void copyEnds() {
        Witness w = new Witness("6 copy: a place and a count whose sum is above ints");
        w.row(0, 1, 2).row(1, 3, 4);
        w.finds(BEYOND, "copy", 0, HIGH, 1, 0, 1);
        w.finds(BEYOND, "copy", 0, 0, 1, HIGH, 1);
        w.finds(BEYOND, "copy", 0, 1, 1, 0, HIGH);
        w.finds(BEYOND, "copy", 0, 0, 1, 1, HIGH);
        w.finds(BEYOND, "copy", 0, HIGH, 1, HIGH, HIGH);
        w.finds(BEYOND, "copy", 0, HIGH - 1, 1, 0, 2);
        w.finds(BEYOND, "copy", 0, LOW, 1, LOW, HIGH);
        w.finds(BEYOND, "copy", 0, -2, 1, 0, 2);
        w.finds(SIZE, "copy", 0, HIGH, 1, HIGH, LOW);
    }

    private static void copyOverItself() {
        Witness w = new Witness("6 copy: perhaps itself, as if taken ahead");
        w.row(0, 1, 2, 3, 4, 5);
        w.rows[0] = Witness.these(1, 1, 2, 3, 4);
        w.is(1, "copy", 0, 0, 0, 1, 4);
        w.rows[0] = Witness.these(1, 2, 3, 4, 4);
        w.is(1, "copy", 0, 1, 0, 0, 4);
        w.is(1, "copy", 0, 0, 0, 0, 5);
        w.rows[0] = Witness.these(4, 2, 3, 4, 4);
        w.is(1, "copy", 0, 4, 0, 0, 1);
    }

    private static void copyMissing() {
        Witness w = new Witness("6 copy: NOTHING: either is missing; BAD: either is none");
        w.row(0, 1).row(5, 2);
        w.findsEach(NOTHING, 0, Witness.these(1, 4), "copy", 0, 0, 5, 0, 1);
        w.findsEach(NOTHING, 2, Witness.these(1, 4), "copy", 0, 0, 5, 0, 1);
        w.finds(NOTHING, "copy", 1, 0, 1, 0, 0);
        w.refusesEach(BAD, 0, NO_ROWS, "copy", 0, 0, 5, 0, 1);
        w.refusesEach(BAD, 2, NO_ROWS, "copy", 0, 0, 5, 0, 1);
        w.rows[5] = Witness.these(1);
        w.is(1, "copy", 0, 0, 5, 0, 1);
    }

    private static void copyOrder() {
        Witness w = new Witness("6 copy: BAD, SIZE, NOTHING, BEYOND, in this order");
        w.row(0, 1).row(5, 2);
        w.refuses(BAD, "copy", 6, 0, 0, 0, -1);
        w.refuses(BAD, "copy", 0, 0, 6, 0, -1);
        w.refuses(BAD, "copy", 1, 9, -1, 9, 9);
        w.refuses(BAD, "copy", -1, 9, 1, 9, 9);
        w.finds(SIZE, "copy", 1, 0, 0, 0, -1);
        w.finds(SIZE, "copy", 0, 0, 1, 0, -1);
        w.finds(SIZE, "copy", 0, 9, 5, 9, -1);
        w.finds(SIZE, "copy", 0, -1, 5, -1, LOW);
        w.finds(NOTHING, "copy", 1, 9, 0, 9, 9);
        w.finds(NOTHING, "copy", 0, -9, 1, -9, HIGH);
    }

    // ---- 7

    private static void meanCuts() {
        Witness w = new Witness("7 mean: cut, towards 0");
        int[][] ints = {{5}, {-5}, {0}, {1, 2}, {-1, -2}, {0, -1}, {0, 1}, {1, 2, 2}, {-1, -2, -2}, {-7, 0, 0, 0}, {3, -3}};
        int[] due = {5, -5, 0, 1, -1, 0, 0, 1, -1, -1, 0};
        for (int i = 0; i < ints.length; i++) {
            w.row(5, ints[i]);
            w.tells(1, due[i], "mean", 5);
        }
    }

    private static void meanOfFar() {
        Witness w = new Witness("7 mean: of ints whose sum is above or below ints");
        w.alike(0, 60, HIGH);
        w.tells(1, HIGH, "mean", 0);
        w.alike(0, 60, LOW);
        w.tells(1, LOW, "mean", 0);
        w.row(0, HIGH, LOW);
        w.tells(1, 0, "mean", 0);
        w.row(0, HIGH, 1);
        w.tells(1, 1 << 30, "mean", 0);
        w.row(0, LOW, -2);
        w.tells(1, -(1 << 30) - 1, "mean", 0);
        w.row(0, HIGH, HIGH, LOW);
        w.tells(1, 715827882, "mean", 0);
    }

    private static void meanRefused() {
        Witness w = new Witness("7 mean: BAD; NOTHING; NOUGHT: of none");
        w.row(0, 4).row(3);
        w.tells(1, 4, "mean", 0);
        w.refusesEach(BAD, 0, NO_ROWS, "mean", 0);
        w.findsEach(NOTHING, 0, Witness.these(1, 5), "mean", 0);
        w.finds(NOUGHT, "mean", 3);
        w.finds(NOUGHT, "mean", 3);
    }

    // ---- 8

    private static byte[] blanks(int n) {
        byte[] blanks = new byte[n];
        java.util.Arrays.fill(blanks, (byte) 32);
        return blanks;
    }

    private static void textsThatThereAre() {
        Witness w = new Witness("8 text: texts are 0 .. 3; BAD goes ahead of SIZE");
        for (int t = 0; t < 4; t++) {
            w.texts[t] = blanks(t);
            w.is(t, "text", t, t);
        }
        w.refusesEach(BAD, 0, NO_TEXTS, "text", 0, 3);
        w.refusesEach(BAD, 0, NO_TEXTS, "text", 0, -1);
        w.refusesEach(BAD, 0, NO_TEXTS, "text", 0, 121);
        w.refusesEach(BAD, 0, NO_TEXTS, "text", 0, LOW);
    }

    private static void textSizes() {
        Witness w = new Witness("8 text: 0 to 120 bytes; above BAD, below SIZE");
        int[] taken = {0, 1, 60, 61, 119, 120, 0, 5};
        for (int n : taken) {
            w.texts[1] = blanks(n);
            w.is(n, "text", 1, n);
        }
        w.refusesEach(BAD, 1, Witness.these(121, 122, 1000, HIGH), "text", 1, 0);
        w.findsEach(SIZE, 1, Witness.these(-1, -120, LOW), "text", 1, 0);
        w.finds(SIZE, "text", 2, -1);
        w.finds(NOTHING, "put", 2, 0, 1);
    }

    private static void textAnew() {
        Witness w = new Witness("8 text: there with n blanks, even if it was there");
        w.text(2, "abc");
        w.texts[2] = blanks(1);
        w.is(1, "text", 2, 1);
        w.texts[2] = blanks(3);
        w.is(3, "text", 2, 3);
        w.texts[2][2] = 1;
        w.is(1032, "put", 2, 2, 1);
        w.texts[2] = blanks(120);
        w.is(120, "text", 2, 120);
        w.texts[2][119] = 2;
        w.is(1032, "put", 2, 119, 2);
    }

    // ---- 9

    private static void putPlaces() {
        Witness w = new Witness("9 put: places 0 .. size less 1, BEYOND on either side");
        w.texts[3] = blanks(120);
        w.is(120, "text", 3, 120);
        w.texts[0] = blanks(0);
        w.is(0, "text", 0, 0);
        w.texts[3][0] = 65;
        w.is(1032, "put", 3, 0, 65);
        w.texts[3][119] = 66;
        w.is(1032, "put", 3, 119, 66);
        w.findsEach(BEYOND, 1, Witness.these(-1, 120, 121, LOW, HIGH), "put", 3, 0, 67);
        w.findsEach(BEYOND, 1, Witness.these(-1, 0, 1, LOW, HIGH), "put", 0, 0, 67);
        w.texts[3] = blanks(2);
        w.is(2, "text", 3, 2);
        w.finds(BEYOND, "put", 3, 2, 1);
    }

    private static void putCutsToAByte() {
        Witness w = new Witness("9 put: cut to a byte; what it was, and 1000 more");
        w.texts[0] = blanks(2);
        w.is(2, "text", 0, 2);
        int[] given = {127, 128, 255, 256, 257, -1, -128, -129, -255, -256, 65536 + 9, HIGH, LOW, LOW + 127, 32};
        int[] cut = {127, -128, -1, 0, 1, -1, -128, 127, 1, 0, 9, -1, 0, 127, 32};
        int was = 32;
        for (int i = 0; i < given.length; i++) {
            w.texts[0][1] = (byte) cut[i];
            w.is(was + 1000, "put", 0, 1, given[i]);
            was = cut[i];
        }
    }

    private static void putOrder() {
        Witness w = new Witness("9 put: BAD, NOTHING, BEYOND, in this order");
        w.text(0, "x");
        w.refusesEach(BAD, 0, NO_TEXTS, "put", 0, 0, 1);
        w.refusesEach(BAD, 0, NO_TEXTS, "put", 0, 99, 1);
        w.findsEach(NOTHING, 0, Witness.these(1, 2, 3), "put", 0, 0, 1);
        w.findsEach(NOTHING, 0, Witness.these(1, 3), "put", 0, -1, 1);
        w.finds(BEYOND, "put", 0, 1, 1);
    }
}
