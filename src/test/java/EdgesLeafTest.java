/** Promises 26 to 28, each sentence that names a boundary: a leaf that is burnt. */
public final class EdgesLeafTest {
    private static final int BAD = Witness.BAD;
    private static final int NOTHING = Witness.NOTHING, BEYOND = Witness.BEYOND, NOUGHT = Witness.NOUGHT;
    private static final int LOW = Witness.LOW, HIGH = Witness.HIGH;
    private static final int[] NO_FOURTH = {-1, 4, LOW, HIGH};
    private static final String[] ALL = {"worlds", "sure", "can"};

    public static void main(String[] args) {
        rulesAndPages();
        daysThatThereAre();
        daysInOrder();
        eightDays();
        linesHeld();
        missing();
        lastDayOfThePage();
        refusedInOrder();
        worldsByHowManyLines();
        worldsOfFewDays();
        worldsAtBothEnds();
        burntLinesDoNotCount();
        linesAheadAreIdle();
        linesBehindAreIdle();
        worldsEachOnce();
        worldsEachOnceByEachDay();
        sureDays();
        sureOfNoWorlds();
        sureOfNoDay();
        canDays();
        canWeathers();
        canOfNoWorlds();
        Due.end();
    }

    /** Rules 0 'y', 1 'c1', 2 without clauses, 3 missing; pages of 6, 24 and 3 days, 3 missing; 7 by asked(). */
    private static Witness chronicle(String part) {
        Witness w = new Witness(part);
        w.rule(0, "y").rule(1, "c1").rule(2, "").page(0, "n6 d1:2 d4:3").page(1, "n24").page(2, "n3 d0:1 d2:1");
        w.row(0, 7);
        w.tells(1, 7, "at", 0, 0);
        return w;
    }

    private static int[] leaf(String name, int rule, int page, int i, int j, int m) {
        if (name.equals("can")) return Witness.these(rule, page, i, j, m, 0);
        return Witness.these(rule, page, i, j, m);
    }

    // ---- what is refused by all three

    private static void rulesAndPages() {
        for (String name : ALL) {
            Witness w = chronicle("26 worlds, 27 sure, 28 can: BAD: no such rule, no such page");
            w.refusesEach(BAD, 0, NO_FOURTH, name, leaf(name, 0, 0, 0, 0, 0));
            w.refusesEach(BAD, 1, NO_FOURTH, name, leaf(name, 0, 0, 0, 0, 0));
            w.refuses(BAD, name, leaf(name, 4, 3, 0, 0, 0));
            w.refuses(BAD, name, leaf(name, 3, 4, 0, 0, 0));
            w.refuses(BAD, name, leaf(name, 4, 0, 6, 7, 0));
        }
    }

    private static void daysThatThereAre() {
        for (String name : ALL) {
            Witness w = chronicle("26 worlds, 27 sure, 28 can: BAD: days 0 .. 23");
            w.refuses(BAD, name, leaf(name, 1, 1, -1, 0, 0));
            w.refuses(BAD, name, leaf(name, 1, 1, -1, 6, 0));
            w.refuses(BAD, name, leaf(name, 1, 1, 23, 24, 0));
            w.refuses(BAD, name, leaf(name, 1, 1, 24, 24, 0));
            w.refuses(BAD, name, leaf(name, 1, 1, 17, 24, 0));
            w.refuses(BAD, name, leaf(name, 1, 1, -1, -1, 0));
            w.refuses(BAD, name, leaf(name, 1, 1, LOW, LOW, 0));
            w.refuses(BAD, name, leaf(name, 1, 1, HIGH, HIGH, 0));
            w.refuses(BAD, name, leaf(name, 1, 1, LOW, LOW + 1, 0));
            w.refuses(BAD, name, leaf(name, 1, 1, HIGH - 1, HIGH, 0));
            // day 0 of page 1 is of weather 1, by 'can' the bit 2
            w.is(due(name, 1, (1 << 24) - 1, 2), name, leaf(name, 1, 1, 0, 0, 0));
            w.is(due(name, 1, (1 << 24) - 1, 2), name, leaf(name, 1, 1, 23, 23, 0));
        }
    }

    private static int due(String name, int worlds, int sure, int can) {
        return name.equals("worlds") ? worlds : name.equals("sure") ? sure : can;
    }

    private static void daysInOrder() {
        for (String name : ALL) {
            Witness w = chronicle("26 worlds, 27 sure, 28 can: BAD: i no more than j");
            w.refuses(BAD, name, leaf(name, 1, 1, 1, 0, 0));
            w.refuses(BAD, name, leaf(name, 1, 1, 23, 22, 0));
            w.refuses(BAD, name, leaf(name, 1, 1, 23, 0, 0));
            w.refuses(BAD, name, leaf(name, 1, 1, HIGH, LOW, 0));
            w.refuses(BAD, name, leaf(name, 1, 1, LOW, HIGH, 0));
            w.refuses(BAD, name, leaf(name, 1, 1, 0, HIGH, 0));
            w.refuses(BAD, name, leaf(name, 1, 1, 0, LOW, 0));
            w.refuses(BAD, name, leaf(name, 1, 1, LOW, 0, 0));
            w.refuses(BAD, name, leaf(name, 1, 1, HIGH, 0, 0));
            w.is(due(name, 1, (1 << 24) - 1, 2), name, leaf(name, 1, 1, 5, 5, 0));
            w.is(due(name, 1, (1 << 24) - 1, 2), name, leaf(name, 1, 1, 5, 6, 0));
        }
    }

    private static void eightDays() {
        for (String name : ALL) {
            Witness w = chronicle("26 worlds, 27 sure, 28 can: BAD: more than 8 days");
            int[] firsts = {0, 1, 15};
            for (int i : firsts) w.refuses(BAD, name, leaf(name, 1, 1, i, i + 8, 0));
            w.refuses(BAD, name, leaf(name, 1, 1, 0, 9, 1));
            w.refuses(BAD, name, leaf(name, 1, 1, 0, 23, 1));
            w.refuses(BAD, name, leaf(name, 1, 1, 14, 23, 1));
            for (int i : firsts) w.is(due(name, 1, (1 << 24) - 1, 2), name, leaf(name, 1, 1, i, i + 7, 0));
            w.is(due(name, 1, (1 << 24) - 1, 2), name, leaf(name, 1, 1, 16, 23, 0));
        }
    }

    private static void linesHeld() {
        for (String name : ALL) {
            Witness w = chronicle("26 worlds, 27 sure, 28 can: BAD: m is 0 .. 3");
            w.refusesEach(BAD, 4, Witness.these(-1, 4, 5, LOW, HIGH), name, leaf(name, 1, 1, 0, 0, 0));
            w.refusesEach(BAD, 4, Witness.these(-1, 4), name, leaf(name, 3, 1, 0, 0, 0));
            w.refusesEach(BAD, 4, Witness.these(-1, 4), name, leaf(name, 0, 0, 6, 6, 0));
            w.is(due(name, 1, (1 << 24) - 1, 2), name, leaf(name, 1, 1, 0, 0, 0));
            for (int m = 1; m <= 3; m++) w.is(due(name, 4, (1 << 24) - 2, 15), name, leaf(name, 1, 1, 0, 0, m));
        }
    }

    private static void missing() {
        for (String name : ALL) {
            Witness w = chronicle("26 worlds, 27 sure, 28 can: NOTHING: either");
            w.finds(NOTHING, name, leaf(name, 3, 0, 0, 0, 0));
            w.finds(NOTHING, name, leaf(name, 0, 3, 0, 0, 0));
            w.finds(NOTHING, name, leaf(name, 3, 3, 0, 0, 0));
            w.finds(NOTHING, name, leaf(name, 3, 0, 0, 7, 3));
            w.finds(NOTHING, name, leaf(name, 0, 3, 16, 23, 3));
        }
    }

    private static void lastDayOfThePage() {
        for (String name : ALL) {
            Witness w = chronicle("26 worlds, 27 sure, 28 can: BEYOND: j is no day of the page");
            w.page(3, "n1");
            w.is(due(name, 1, 63, 1), name, leaf(name, 0, 0, 0, 5, 0));
            w.is(due(name, 4, 31, 1), name, leaf(name, 0, 0, 5, 5, 1));
            w.finds(BEYOND, name, leaf(name, 0, 0, 0, 6, 0));
            w.finds(BEYOND, name, leaf(name, 0, 0, 6, 6, 0));
            w.finds(BEYOND, name, leaf(name, 0, 0, 5, 12, 3));
            w.finds(BEYOND, name, leaf(name, 0, 0, 16, 23, 0));
            w.is(due(name, 4, 0, 15), name, leaf(name, 0, 3, 0, 0, 1));
            w.finds(BEYOND, name, leaf(name, 0, 3, 0, 1, 1));
            w.finds(BEYOND, name, leaf(name, 0, 3, 1, 1, 1));
            w.is(due(name, 1, (1 << 24) - 1, 1), name, leaf(name, 0, 1, 23, 23, 0));
        }
    }

    private static void refusedInOrder() {
        for (String name : ALL) {
            Witness w = chronicle("26 worlds, 27 sure, 28 can: BAD, NOTHING, BEYOND, in this order");
            w.refuses(BAD, name, leaf(name, 3, 0, 1, 0, 0));
            w.refuses(BAD, name, leaf(name, 0, 3, 0, 8, 0));
            w.refuses(BAD, name, leaf(name, 3, 3, 0, 24, 0));
            w.refuses(BAD, name, leaf(name, 0, 0, 5, 13, 0));
            w.refuses(BAD, name, leaf(name, 0, 0, 7, 6, 0));
            w.finds(NOTHING, name, leaf(name, 3, 0, 6, 6, 0));
            w.finds(NOTHING, name, leaf(name, 3, 2, 3, 3, 0));
            // no worlds are left there: BEYOND goes ahead of NOUGHT
            w.finds(BEYOND, name, leaf(name, 1, 2, 1, 3, 0));
            w.finds(BEYOND, name, leaf(name, 1, 2, 3, 3, 0));
        }
    }

    // ---- 26

    /** Of 8 days k have lines, each of one of three weathers. */
    private static void worldsByHowManyLines() {
        Witness w = chronicle("26 worlds: m lines at most, 0 to 3");
        int[] due = {1, 1 + 8 * 3, 1 + 8 * 3 + 28 * 9, 1 + 8 * 3 + 28 * 9 + 56 * 27};
        for (int rule = 0; rule < 3; rule++) {
            for (int m = 0; m <= 3; m++) w.is(due[m], "worlds", rule, 1, 3 * rule, 3 * rule + 7, m);
        }
    }

    private static void worldsOfFewDays() {
        Witness w = chronicle("26 worlds: no more lines than days");
        int[][] due = {{1, 4, 4, 4}, {1, 7, 16, 16}, {1, 10, 37, 64}, {1, 13, 67, 175}};
        for (int days = 1; days <= 4; days++) {
            for (int m = 0; m <= 3; m++) w.is(due[days - 1][m], "worlds", 1, 1, 10, 9 + days, m);
        }
    }

    private static void worldsAtBothEnds() {
        Witness w = chronicle("26 worlds: leaves that hold the first day, the last day, all days");
        w.is(1789, "worlds", 0, 1, 0, 7, 3);
        w.is(1789, "worlds", 0, 1, 16, 23, 3);
        w.is(277, "worlds", 1, 1, 0, 7, 2);
        w.is(277, "worlds", 1, 1, 16, 23, 2);
        w.is(64, "worlds", 1, 2, 0, 2, 3);
        w.is(37, "worlds", 1, 2, 0, 2, 2);
        w.page(3, "n8 d0:1 d7:2");
        w.is(1789, "worlds", 2, 3, 0, 7, 3);
        w.is(1, "worlds", 2, 3, 0, 7, 0);
    }

    private static void burntLinesDoNotCount() {
        Witness w = chronicle("26 worlds: LINES of the page on the burnt days do not count");
        w.is(1, "worlds", 0, 0, 1, 1, 0);
        w.is(4, "worlds", 2, 0, 1, 1, 1);
        w.is(1, "worlds", 1, 2, 0, 2, 0);
        // lines that were idle, on burnt days and beside them
        w.page(3, "n4 d1:1 d2:1 d3:2");
        w.is(1, "worlds", 1, 3, 1, 2, 0);
        w.is(7, "worlds", 1, 3, 1, 2, 1);
        w.is(0, "worlds", 1, 3, 1, 1, 0);
        w.is(0, "worlds", 1, 3, 2, 2, 1);
    }

    private static void linesAheadAreIdle() {
        Witness w = chronicle("26 worlds: no WORLD, if a LINE of another day is IDLE, ahead or behind");
        w.is(0, "worlds", 1, 2, 1, 1, 3);
        w.is(0, "worlds", 1, 2, 1, 2, 3);
        w.is(0, "worlds", 1, 2, 0, 1, 3);
        w.is(0, "worlds", 1, 2, 0, 1, 0);
        w.is(4, "worlds", 2, 2, 1, 1, 3);
        w.page(3, "n24 d23:1");
        w.is(0, "worlds", 1, 3, 0, 7, 3);
        w.is(1789, "worlds", 2, 3, 0, 7, 3);
    }

    /** By 'y' a leaf that ends in weather 3 makes the line of day 4 idle. */
    private static void linesBehindAreIdle() {
        Witness w = chronicle("26 worlds: WORLDS in which a LINE behind the leaf is IDLE do not count");
        w.is(3, "worlds", 0, 0, 3, 3, 1);
        w.is(3, "worlds", 0, 0, 2, 2, 1);
        w.is(1 + 2 * 2, "worlds", 0, 0, 2, 3, 1);
        w.is(1 + 2 * 2 + 2 * 2 + 3, "worlds", 0, 0, 2, 3, 2);
        w.is(4, "worlds", 0, 0, 5, 5, 1);
        // day 0: were it 2, the line of day 1 would be idle
        w.is(3, "worlds", 0, 0, 0, 0, 1);
    }

    /** By 'c1' each world has its own lines: as many worlds as ways, and m does not make them more. */
    private static void worldsEachOnce() {
        Witness w = chronicle("26 worlds: each once");
        w.page(3, "n2");
        w.is(16, "worlds", 0, 3, 0, 1, 2);
        w.is(16, "worlds", 0, 3, 0, 1, 3);
        w.is(16, "worlds", 1, 3, 0, 1, 3);
        w.rule(3, "a0:0 a1:0 a2:0 a3:0");
        w.is(16, "worlds", 3, 3, 0, 1, 3);
        w.is(4, "worlds", 3, 3, 0, 0, 3);
        // three days of any weathers, but for the 16 whose last day makes the line behind idle
        for (int v = 0; v < 4; v++) {
            w.page(3, "n4 d3:" + v);
            w.is(64 - 16, "worlds", 0, 3, 0, 2, 3);
            w.is(15 - (1 << v), "can", 0, 3, 0, 2, 3, 2);
        }
    }

    /** As above, with the line behind judged by another day of the leaf. */
    private static void worldsEachOnceByEachDay() {
        Witness w = chronicle("26 worlds: each once, whichever day of the leaf is otherwise");
        for (int back = 1; back <= 3; back++) {
            w.rule(3, back == 1 ? "y" : "b" + back);
            for (int v = 0; v < 4; v++) {
                w.page(3, "n4 d3:" + v);
                w.is(64 - 16, "worlds", 3, 3, 0, 2, 3);
                w.is(15 - (1 << v), "can", 3, 3, 0, 2, 3, 3 - back);
            }
        }
    }

    // ---- 27

    private static void sureDays() {
        Witness w = chronicle("27 sure: days (bits) of the same WEATHER in all WORLDS, the first, the last");
        w.is((1 << 24) - 1, "sure", 1, 1, 0, 7, 0);
        w.is((1 << 24) - 256, "sure", 1, 1, 0, 7, 1);
        w.is((1 << 16) - 1, "sure", 1, 1, 16, 23, 3);
        w.is((1 << 23) - 1, "sure", 1, 1, 23, 23, 1);
        w.is((1 << 24) - 2, "sure", 1, 1, 0, 0, 1);
        w.is(0, "sure", 0, 1, 0, 0, 1);
        w.is((1 << 23) - 1, "sure", 0, 1, 23, 23, 1);
        w.is(63 - 4 - 8, "sure", 0, 0, 2, 3, 1);
        w.is(15, "sure", 0, 0, 4, 4, 1);
        w.is(15, "sure", 0, 0, 4, 5, 3);
    }

    private static void sureOfNoWorlds() {
        Witness w = chronicle("27 sure: NOUGHT: there are none");
        w.finds(NOUGHT, "sure", 1, 2, 1, 1, 0);
        w.finds(NOUGHT, "sure", 1, 2, 1, 1, 3);
        w.finds(NOUGHT, "sure", 1, 2, 0, 1, 3);
        w.is(7, "sure", 1, 2, 0, 2, 0);
        w.is(5, "sure", 2, 2, 1, 1, 1);
    }

    private static void sureOfNoDay() {
        Witness w = chronicle("27 sure: 0, if there are worlds but no day is sure");
        w.is(0, "sure", 1, 2, 0, 2, 3);
        w.page(3, "n1");
        w.is(0, "sure", 0, 3, 0, 0, 1);
        w.is(1, "sure", 0, 3, 0, 0, 0);
    }

    // ---- 28

    private static void canDays() {
        Witness w = chronicle("28 can: BAD: d not 0 .. 23; BEYOND: j, or the day");
        w.refusesEach(BAD, 5, Witness.these(-1, 24, 25, LOW, HIGH), "can", 1, 1, 0, 0, 0, 0);
        w.refusesEach(BAD, 5, Witness.these(-1, 24), "can", 3, 3, 0, 0, 0, 0);
        w.refusesEach(BAD, 5, Witness.these(-1, 24), "can", 0, 0, 6, 6, 0, 0);
        w.finds(NOTHING, "can", 3, 0, 0, 0, 0, 6);
        w.finds(NOTHING, "can", 0, 3, 0, 0, 0, 23);
        w.findsEach(BEYOND, 5, Witness.these(6, 7, 23), "can", 0, 0, 0, 5, 0, 0);
        w.finds(BEYOND, "can", 0, 0, 0, 6, 0, 5);
        w.finds(BEYOND, "can", 0, 0, 6, 6, 0, 6);
        w.finds(BEYOND, "can", 1, 2, 1, 1, 0, 3);
        w.is(1, "can", 0, 0, 0, 5, 0, 0);
        w.is(1, "can", 0, 0, 0, 5, 0, 5);
        w.is(8, "can", 0, 0, 0, 3, 1, 5);
        w.is(2, "can", 1, 1, 0, 0, 3, 23);
        w.is(15, "can", 1, 1, 23, 23, 1, 23);
    }

    private static void canWeathers() {
        Witness w = chronicle("28 can: WEATHERS as bits, in the leaf, ahead of it, behind it");
        w.is(1, "can", 0, 0, 2, 3, 0, 0);
        w.is(4, "can", 0, 0, 2, 3, 0, 2);
        w.is(8, "can", 0, 0, 2, 3, 0, 5);
        w.is(7, "can", 0, 0, 2, 2, 1, 2);
        w.is(7, "can", 0, 0, 2, 2, 1, 3);
        w.is(15, "can", 0, 0, 2, 3, 2, 2);
        w.is(7, "can", 0, 0, 2, 3, 2, 3);
        w.is(15, "can", 0, 0, 4, 4, 1, 5);
        w.is(11, "can", 0, 0, 0, 0, 1, 0);
        w.is(4, "can", 0, 0, 0, 0, 1, 1);
    }

    private static void canOfNoWorlds() {
        Witness w = chronicle("28 can: 0: there are no WORLDS");
        for (int d = 0; d < 3; d++) w.is(0, "can", 1, 2, 1, 1, 3, d);
        w.is(0, "can", 1, 2, 0, 1, 0, 2);
        w.is(2, "can", 1, 2, 0, 2, 0, 2);
    }
}
