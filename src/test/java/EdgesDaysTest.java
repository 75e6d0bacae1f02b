/** Promises 18 to 25, each sentence that names a boundary: days, pages of days, fewest lines, readings. */
public final class EdgesDaysTest {
    private static final int BAD = Witness.BAD, STATE = Witness.STATE, SPENT = Witness.SPENT;
    private static final int NOTHING = Witness.NOTHING, BEYOND = Witness.BEYOND, UNLIKE = Witness.UNLIKE;
    private static final int SIZE = Witness.SIZE;
    private static final int LOW = Witness.LOW, HIGH = Witness.HIGH;
    private static final int[] NO_ROWS = {-1, 6, LOW, HIGH}, NO_FOURTH = {-1, 4, LOW, HIGH};
    private static final int[] NO_THIRD = {-1, 3, 4, LOW, HIGH}, NO_SIZES = {0, 3, -1, LOW, HIGH};
    private static final int ALL_24 = (1 << 24) - 1;

    public static void main(String[] args) {
        daysOfOneAndOf24();
        daysByRules();
        daysIdleLines();
        daysRowAnew();
        daysRefused();
        writeSizes();
        writeWeathers();
        writeNoLinesAndAll();
        writeAnew();
        writeRefused();
        weighingSizes();
        weighingRowSizes();
        weighingWeathers();
        weighingRefused();
        fewestOfOneDay();
        fewestFirstOfAlike();
        fewestOfTwoClauses();
        fewestByTryingAll();
        openRefused();
        openAsTheyAreThen();
        readNoneAndAll();
        readAll24();
        keepPlaces();
        keepAgain();
        onPlaces();
        onStaysKept();
        Due.end();
    }

    // ---- 18

    private static void daysOfOneAndOf24() {
        Witness w = new Witness("18 days: of a page of one day, of 24 days");
        w.page(0, "n1").page(1, "n1 d0:3").page(2, "n24 d23:2").rule(0, "c1");
        w.rows[0] = Witness.these(1);
        w.tells(1, 0, "days", 0, 0, 0);
        w.rows[5] = Witness.these(3);
        w.tells(1, 0, "days", 0, 1, 5);
        w.rows[5] = Witness.all(24, 1);
        w.rows[5][23] = 2;
        w.tells(24, 0, "days", 0, 2, 5);
        w.finds(BEYOND, "at", 5, 24);
        w.rule(3, "").page(3, "n24 d0:2");
        w.rows[1] = new int[24];
        w.rows[1][0] = 2;
        w.tells(24, 0, "days", 3, 3, 1);
    }

    private static void daysByRules() {
        Witness w = new Witness("18 days: a day without a line is as the rule expects by the days ahead");
        w.page(0, "n9 d1:2 d4:3");
        String[] rules = {"y", "b2", "b7 y", "s3:1", "a2:3 a3:1", "s2:1 b3 c2", "c3"};
        int[][] due = {{0, 2, 2, 2, 3, 3, 3, 3, 3}, {0, 2, 0, 2, 3, 2, 3, 2, 3}, {0, 2, 2, 2, 3, 3, 3, 0, 2},
            {1, 2, 0, 1, 3, 0, 1, 0, 0}, {0, 2, 3, 1, 3, 1, 0, 0, 0}, {1, 2, 1, 1, 3, 1, 1, 3, 1},
            {3, 2, 3, 3, 3, 3, 3, 3, 3}};
        int[] idle = {0, 0, 0, 0, 0, 1, 2};
        for (int i = 0; i < rules.length; i++) {
            w.rule(2, rules[i]);
            w.rows[4] = due[i];
            w.tells(9, idle[i], "days", 2, 0, 4);
        }
    }

    private static void daysIdleLines() {
        Witness w = new Witness("18 days: IDLE LINES (bits), none to all 24; a bit is the LINE, not the day");
        w.rule(0, "c0").rule(1, "c1").row(0, new int[24]);
        w.pages[0] = page(24, new int[24]);
        w.quick(24, "write", 1, 0, 0);
        w.rows[1] = new int[24];
        w.tells(24, ALL_24, "days", 0, 0, 1);
        w.tells(24, 0, "days", 1, 0, 1);
        w.page(2, "n24 d3:0 d9:1 d23:0");
        w.rows[2] = Witness.all(24, 0);
        w.rows[2][9] = 1;
        w.tells(24, 5, "days", 0, 2, 2);
        w.rows[2] = Witness.all(24, 1);
        w.rows[2][3] = 0;
        w.rows[2][23] = 0;
        w.tells(24, 2, "days", 1, 2, 2);
        w.rule(2, "y").page(3, "n5 d1:1 d2:1 d3:0 d4:0");
        w.rows[3] = Witness.these(0, 1, 1, 0, 0);
        w.tells(5, 10, "days", 2, 3, 3);
    }

    private static int[] page(int days, int[] weathers) {
        int[] page = new int[1 + 2 * weathers.length];
        page[0] = days;
        for (int d = 0; d < weathers.length; d++) {
            page[1 + 2 * d] = d;
            page[2 + 2 * d] = weathers[d];
        }
        return page;
    }

    private static void daysRowAnew() {
        Witness w = new Witness("18 days: come to a row anew, be it missing, longer or shorter");
        w.rule(0, "c1").page(0, "n3").alike(0, 60, 9).row(1);
        for (int r = 0; r < 6; r++) {
            w.rows[r] = Witness.these(1, 1, 1);
            w.tells(3, 0, "days", 0, 0, r);
        }
        w.finds(BEYOND, "at", 0, 3);
    }

    private static void daysRefused() {
        Witness w = new Witness("18 days: BAD; NOTHING: either; the row stays as it was");
        w.rule(0, "y").page(0, "n2").row(0, 7, 7, 7);
        w.refusesEach(BAD, 0, NO_FOURTH, "days", 0, 0, 0);
        w.refusesEach(BAD, 1, NO_FOURTH, "days", 0, 0, 0);
        w.refusesEach(BAD, 2, NO_ROWS, "days", 0, 0, 0);
        w.refuses(BAD, "days", 3, 3, 6);
        w.refuses(BAD, "days", 3, 4, 0);
        w.refuses(BAD, "days", 4, 3, 0);
        w.findsEach(NOTHING, 0, Witness.these(1, 3), "days", 0, 0, 0);
        w.findsEach(NOTHING, 1, Witness.these(1, 3), "days", 0, 0, 0);
        w.finds(NOTHING, "days", 3, 3, 0);
        w.finds(NOTHING, "days", 3, 0, 5);
        w.rows[0] = Witness.these(0, 0);
        w.tells(2, 0, "days", 0, 0, 0);
    }

    // ---- 19

    private static void writeSizes() {
        Witness w = new Witness("19 write: 1 to 24 days; SIZE: fewer or more");
        w.rule(0, "c0");
        for (int n : new int[] {1, 2, 23, 24}) {
            w.alike(0, n, 0);
            w.pages[1] = Witness.these(n);
            w.is(0, "write", 0, 0, 1);
        }
        for (int n : new int[] {0, 25, 26, 60}) {
            w.alike(0, n, 0);
            w.finds(SIZE, "write", 0, 0, 1);
        }
        w.alike(0, 25, 4);
        w.finds(SIZE, "write", 0, 0, 1);
    }

    private static void writeWeathers() {
        Witness w = new Witness("19 write: UNLIKE: no WEATHER, anywhere in the row");
        w.rule(0, "c0");
        for (int v : new int[] {-1, 4, LOW, HIGH}) {
            w.row(0, v);
            w.finds(UNLIKE, "write", 0, 0, 0);
            w.row(0, 0, 0, v);
            w.finds(UNLIKE, "write", 0, 0, 0);
        }
        int[] last = new int[24];
        last[23] = 4;
        w.row(0, last);
        w.finds(UNLIKE, "write", 0, 0, 0);
        last[23] = 3;
        w.row(0, last);
        w.pages[0] = Witness.these(24, 23, 3);
        w.is(1, "write", 0, 0, 0);
    }

    private static void writeNoLinesAndAll() {
        Witness w = new Witness("19 write: how many LINES it needs, none to all 24");
        int[] days = new int[24];
        for (int d = 0; d < 24; d++) days[d] = 1 + d % 3;
        w.row(0, days).rule(0, "").rule(1, "b3 a0:2 s2:1 c0");
        w.pages[3] = page(24, days);
        w.is(24, "write", 0, 0, 3);
        w.tells(23, 3, "line", 3, 23);
        w.finds(BEYOND, "line", 3, 24);
        w.pages[3] = Witness.these(24, 1, 2, 2, 3);
        w.is(2, "write", 1, 0, 3);
        w.rule(2, "a1:2 a2:3 c1");
        w.pages[3] = Witness.these(24);
        w.is(0, "write", 2, 0, 3);
        w.finds(BEYOND, "line", 3, 0);
    }

    private static void writeAnew() {
        Witness w = new Witness("19 write: a page anew, be it missing or there; the row stays");
        w.rule(0, "y").row(0, 3, 3, 1).page(2, "n24 d0:1 d23:1");
        for (int k = 0; k < 4; k++) {
            w.pages[k] = Witness.these(3, 0, 3, 2, 1);
            w.is(2, "write", 0, 0, k);
        }
        w.rows[5] = Witness.these(3, 3, 1);
        w.tells(3, 0, "days", 0, 2, 5);
    }

    private static void writeRefused() {
        Witness w = new Witness("19 write: BAD; NOTHING: either; then SIZE, UNLIKE");
        w.rule(0, "y").row(0, 1).row(1).row(2, 4).page(0, "n2");
        w.refusesEach(BAD, 0, NO_FOURTH, "write", 0, 0, 0);
        w.refusesEach(BAD, 1, NO_ROWS, "write", 0, 0, 0);
        w.refusesEach(BAD, 2, NO_FOURTH, "write", 0, 0, 0);
        w.refuses(BAD, "write", 3, 5, 4);
        w.refuses(BAD, "write", 0, 1, 4);
        w.refuses(BAD, "write", 0, 2, -1);
        w.refuses(BAD, "write", -1, 1, 0);
        w.findsEach(NOTHING, 0, Witness.these(1, 3), "write", 0, 0, 0);
        w.findsEach(NOTHING, 1, Witness.these(3, 5), "write", 0, 0, 0);
        w.finds(NOTHING, "write", 3, 5, 0);
        w.finds(NOTHING, "write", 3, 1, 0);
        w.finds(NOTHING, "write", 3, 2, 0);
        w.finds(SIZE, "write", 0, 1, 0);
        w.finds(UNLIKE, "write", 0, 2, 0);
        w.finds(NOTHING, "line", 1, 0);
    }

    // ---- 20, 21

    private static final String[] WEIGHING = {"fewest", "many"};

    private static void weighingSizes() {
        for (String name : WEIGHING) {
            Witness w = new Witness("20 fewest, 21 many: SIZE of RULES 1, 2; another one BAD");
            w.row(0, 2).row(1).row(2, 4);
            w.refusesEach(BAD, 1, NO_SIZES, name, 0, 1);
            w.refusesEach(BAD, 1, NO_SIZES, name, 5, 1);
            w.refusesEach(BAD, 1, NO_SIZES, name, 1, 1);
            w.refusesEach(BAD, 1, NO_SIZES, name, 2, 1);
            w.refusesEach(BAD, 0, NO_ROWS, name, 0, 0);
        }
    }

    private static void weighingRowSizes() {
        for (String name : WEIGHING) {
            for (int size = 1; size <= 2; size++) {
                Witness w = new Witness("20 fewest, 21 many: 1 to 24 days; SIZE: fewer or more, ahead of UNLIKE");
                for (int n : new int[] {0, 25, 60}) {
                    w.alike(0, n, 4);
                    w.finds(SIZE, name, 0, size);
                    w.alike(0, n, 0);
                    w.finds(SIZE, name, 0, size);
                }
                for (int n : new int[] {1, 24}) {
                    w.alike(0, n, 0);
                    if (name.equals("fewest")) w.tells(0, 0, name, 0, size);
                    else w.is(allZero(n, size), name, 0, size);
                }
            }
        }
    }

    /** How many rules need no line for days that are all 0: 24 of them as in the shared runs. */
    private static int allZero(int n, int size) {
        if (n == 24) return size == 1 ? 1 + 1 + 6 + 8 + 1 + 12 : 948;
        return size == 1 ? 32 : 32 + 9 * 59 + 23 * 32;
    }

    private static void weighingWeathers() {
        for (String name : WEIGHING) {
            Witness w = new Witness("20 fewest, 21 many: UNLIKE: no WEATHER, anywhere in the row");
            for (int v : new int[] {-1, 4, LOW, HIGH}) {
                w.row(0, v, 0);
                w.finds(UNLIKE, name, 0, 1);
                w.row(0, 0, v);
                w.finds(UNLIKE, name, 0, 2);
            }
            int[] last = new int[24];
            last[23] = 4;
            w.row(5, last);
            w.finds(UNLIKE, name, 5, 1);
        }
    }

    private static void weighingRefused() {
        for (String name : WEIGHING) {
            Witness w = new Witness("20 fewest, 21 many: BAD; NOTHING");
            w.row(0, 3).row(5, 3);
            w.refusesEach(BAD, 0, NO_ROWS, name, 0, 1);
            w.refusesEach(BAD, 0, NO_ROWS, name, 0, 2);
            w.findsEach(NOTHING, 0, Witness.these(1, 4), name, 0, 1);
            w.findsEach(NOTHING, 0, Witness.these(1, 4), name, 0, 2);
            for (int r = 0; r <= 5; r += 5) {
                if (name.equals("fewest")) w.tells(0, 3, name, r, 1);
                else w.is(9, name, r, 1);
            }
        }
    }

    /** 0 is told by c0, s k:0 (9) and by those that can't tell day 0 (23); another one by 9. */
    private static void fewestOfOneDay() {
        Witness w = new Witness("20 fewest, 21 many: of one day");
        for (int v = 0; v < 4; v++) {
            w.row(1, v);
            w.tells(0, v, "fewest", 1, 1);
            w.tells(0, v, "fewest", 1, 2);
            w.is(v == 0 ? 32 : 9, "many", 1, 1);
            w.is(v == 0 ? 32 + 9 * 59 + 23 * 32 : 9 + 9 * 59 + 23 * 9, "many", 1, 2);
        }
    }

    private static void fewestFirstOfAlike() {
        Witness w = new Witness("20 fewest: the number of the first such RULE; of alike ones the least");
        w.row(0, 1, 1);
        w.tells(0, 1, "fewest", 0, 1);
        w.row(0, 0, 1);
        w.tells(0, 44, "fewest", 0, 1);
        w.is(1, "many", 0, 1);
        w.row(0, 0, 3, 0, 3);
        w.tells(0, 46, "fewest", 0, 1);
        w.row(0, 3, 3, 3, 0, 3);
        w.tells(1, 3, "fewest", 0, 1);
        w.row(0, 0, 0, 3, 3, 3);
        w.tells(1, 4, "fewest", 0, 1);
        w.row(0, 0, 3, 2, 0, 0);
        w.tells(1, 57, "fewest", 0, 1);
    }

    private static void fewestOfTwoClauses() {
        Witness w = new Witness("20 fewest: RULES of SIZE 2 are those of one CLAUSE, then those of two");
        w.row(0, 1, 2, 1, 2, 1, 2);
        w.tells(2, 5, "fewest", 0, 1);
        w.tells(0, 59 + 59 * 12 + 2, "fewest", 0, 2);
        w.row(0, 0, 3, 3, 3, 3);
        // s5:0 c3, as s2:0 .. s4:0 tell one of the days 2 to 4, too
        w.tells(0, 59 + 59 * 23 + 3, "fewest", 0, 2);
        w.row(0, 3, 3);
        w.tells(0, 3, "fewest", 0, 2);
    }

    /** The row against all rules by write(), some rules to an object. */
    private static void fewestByTryingAll() {
        int[] days = {1, 0, 0, 2, 1, 3, 0, 2};
        for (int size = 1; size <= 2; size++) {
            int end = size == 1 ? 59 : 3540;
            int fewest = 99, first = 0, many = 0;
            Witness w = null;
            for (int number = 0; number < end; number++) {
                if (number % 200 == 0) w = new Witness("20 fewest, 21 many: by trying all").row(0, days);
                int needed = Plain.linesNeeded(Plain.rule(number), days);
                w.numbered(0, number);
                w.quick(needed, "write", 0, 0, 0);
                if (needed < fewest) {
                    fewest = needed;
                    first = number;
                    many = 0;
                }
                if (needed == fewest) many++;
            }
            w = new Witness("20 fewest, 21 many: by trying all").row(3, days);
            w.tells(fewest, first, "fewest", 3, size);
            w.is(many, "many", 3, size);
        }
    }

    // ---- 22

    private static void openRefused() {
        Witness w = new Witness("22 open: BAD; NOTHING: either; a READING stays as it was");
        w.rule(0, "c1").page(0, "n3 d1:2");
        w.refusesEach(BAD, 0, NO_FOURTH, "open", 0, 0);
        w.refusesEach(BAD, 1, NO_FOURTH, "open", 0, 0);
        w.refuses(BAD, "open", 3, 4);
        w.refuses(BAD, "open", 4, 3);
        w.finds(NOTHING, "open", 3, 0);
        w.finds(NOTHING, "open", 0, 3);
        w.finds(NOTHING, "open", 3, 3);
        w.refuses(STATE, "read");
        w.reading(0, 0, 1, 2);
        w.refuses(BAD, "open", 0, 4);
        w.finds(NOTHING, "open", 1, 0);
        w.finds(NOTHING, "open", 0, 1);
        w.read = Witness.these(1, 2, 1);
        w.tells(1, 0, "read");
    }

    private static void openAsTheyAreThen() {
        Witness w = new Witness("22 open: at day 0; of the RULE and PAGE as they are then; how many DAYS");
        w.rule(0, "y").page(0, "n4 d1:2").page(1, "n1").page(2, "n24");
        w.read = new int[0];
        w.is(4, "open", 0, 0);
        w.is(1, "open", 0, 1);
        w.is(24, "open", 0, 2);
        w.is(4, "open", 0, 0);
        w.read = Witness.these(0);
        w.tells(0, 0, "read");
        w.rule(0, "c3").page(0, "n2 d0:1");
        w.read = Witness.these(0, 2);
        w.tells(2, 1, "read");
        w.numbered(0, 0);
        w.read = Witness.these(0, 2, 2);
        w.tells(2, 0, "read");
        w.row(0, 1, 1, 1);
        w.pages[0] = Witness.these(3, 0, 1, 1, 1, 2, 1);
        w.is(3, "write", 0, 0, 0);
        w.read = Witness.these(0, 2, 2, 2);
        w.tells(2, 0, "read");
        w.refuses(SPENT, "read");
        w.read = new int[0];
        w.is(3, "open", 0, 0);
        w.read = Witness.these(1);
        w.tells(1, 1, "read");
    }

    // ---- 23

    private static void readNoneAndAll() {
        Witness w = new Witness("23 read: STATE: there is none; SPENT: all are read, again and again");
        w.rule(0, "c0").page(0, "n1 d0:0").page(1, "n2");
        w.refuses(STATE, "read");
        w.refuses(STATE, "read");
        w.read = new int[0];
        w.is(1, "open", 0, 0);
        w.read = Witness.these(0);
        w.tells(0, 1, "read");
        w.refuses(SPENT, "read");
        w.refuses(SPENT, "read");
        w.read = new int[0];
        w.is(2, "open", 0, 1);
        w.read = Witness.these(0);
        w.tells(0, 0, "read");
        w.read = Witness.these(0, 0);
        w.tells(0, 0, "read");
        w.refuses(SPENT, "read");
    }

    private static void readAll24() {
        Witness w = new Witness("23 read: day 23 is the last of 24; whether it has a LINE by asked()");
        w.rule(0, "y").page(0, "n24 d0:1 d22:2 d23:3");
        w.read = new int[0];
        w.is(24, "open", 0, 0);
        int[] all = Witness.all(24, 1);
        all[22] = 2;
        all[23] = 3;
        for (int d = 0; d < 24; d++) {
            w.read = java.util.Arrays.copyOf(all, d + 1);
            w.tells(all[d], d == 0 || d >= 22 ? 1 : 0, "read");
        }
        w.refuses(SPENT, "read");
    }

    // ---- 24

    private static void keepPlaces() {
        Witness w = new Witness("24 keep: places 0 .. 2; BAD ahead of STATE; STATE: there is no READING");
        w.rule(0, "c1").page(0, "n3");
        w.refusesEach(BAD, 0, NO_THIRD, "keep", 0);
        for (int k = 0; k < 3; k++) w.refuses(STATE, "keep", k);
        for (int k = 0; k < 3; k++) w.finds(NOTHING, "on", k);
        w.read = new int[0];
        w.is(3, "open", 0, 0);
        for (int k = 0; k < 3; k++) w.is(0, "keep", k);
        w.refusesEach(BAD, 0, NO_THIRD, "keep", 0);
    }

    private static void keepAgain() {
        Witness w = new Witness("24 keep: as it is, how many days are read, none to all; again in the same place");
        w.rule(0, "c1").page(0, "n24");
        w.read = new int[0];
        w.is(24, "open", 0, 0);
        w.is(0, "keep", 1);
        w.reading(0, 0, Witness.all(24, 1));
        w.is(24, "keep", 1);
        w.is(24, "keep", 2);
        w.refuses(SPENT, "read");
        w.read = new int[0];
        w.is(24, "open", 0, 0);
        w.read = Witness.all(24, 1);
        w.is(24, "on", 1);
        w.refuses(SPENT, "read");
        w.reading(0, 0, 1);
        w.is(1, "keep", 1);
        w.read = Witness.all(24, 1);
        w.is(24, "on", 2);
        w.read = Witness.these(1);
        w.is(1, "on", 1);
        w.finds(NOTHING, "on", 0);
    }

    // ---- 25

    private static void onPlaces() {
        Witness w = new Witness("25 on: places 0 .. 2; BAD; NOTHING: a kept READING that is missing");
        w.rule(0, "c1").page(0, "n3");
        w.refusesEach(BAD, 0, NO_THIRD, "on", 0);
        for (int k = 0; k < 3; k++) w.finds(NOTHING, "on", k);
        w.refuses(STATE, "read");
        w.reading(0, 0, 1, 1);
        w.is(2, "keep", 1);
        w.finds(NOTHING, "on", 0);
        w.finds(NOTHING, "on", 2);
        w.refusesEach(BAD, 0, NO_THIRD, "on", 0);
        w.is(2, "on", 1);
        w.is(2, "keep", 0);
        w.is(2, "keep", 2);
        for (int k = 0; k < 3; k++) w.is(2, "on", k);
    }

    private static void onStaysKept() {
        Witness w = new Witness("25 on: as it was kept, as often as wanted, whatever came meanwhile");
        w.rule(0, "y").page(0, "n4 d1:2 d3:1").rule(1, "c3");
        w.reading(0, 0, 0);
        w.is(1, "keep", 0);
        w.page(0, "n2").rule(0, "c1");
        for (int i = 0; i < 2; i++) {
            w.read = Witness.these(0);
            w.is(1, "on", 0);
            w.read = Witness.these(0, 2);
            w.tells(2, 1, "read");
            w.read = Witness.these(0, 2, 2);
            w.tells(2, 0, "read");
            w.read = Witness.these(0, 2, 2, 1);
            w.tells(1, 1, "read");
            w.refuses(SPENT, "read");
            w.reading(1, 0, 3, 3);
            w.refuses(SPENT, "read");
        }
    }
}
