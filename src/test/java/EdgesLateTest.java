/** Promises 34 to 41, each sentence that names a boundary: changes, joined ones, false lines. */
public final class EdgesLateTest {
    private static final int BAD = Witness.BAD, FULL = Witness.FULL, NONE = Witness.NONE;
    private static final int NOTHING = Witness.NOTHING, BEYOND = Witness.BEYOND, UNLIKE = Witness.UNLIKE;
    private static final int SIZE = Witness.SIZE;
    private static final int LOW = Witness.LOW, HIGH = Witness.HIGH;
    private static final int[] NO_ROWS = {-1, 6, LOW, HIGH}, NO_FOURTH = {-1, 4, LOW, HIGH};
    private static final int[] NO_DAYS = {-1, 24, 25, LOW, HIGH}, NO_WEATHERS = {-1, 4, 5, LOW, HIGH};
    private static final int ALL_24 = (1 << 24) - 1;
    private static final String[] CHANGE = {"changed", "when"};

    public static void main(String[] args) {
        changeNumbers();
        changeMissing();
        changeSizes();
        changeWeathers();
        changeInOrder();
        changedOfOneDay();
        changedOf24Days();
        changedOnNoDay();
        changedJustTheLines();
        changedWithin();
        joinedRefused();
        joinedOneAnd24();
        joinedDays();
        joinedBehindLongerOnes();
        followsPlaces();
        followsRefused();
        followsNoneToAll();
        followsBehindLongerOnes();
        knowDaysAndWeathers();
        knowEight();
        knowBadAheadOfFull();
        forgetNumbers();
        forgetBelowAndAbove();
        forgetThenKnow();
        forbidsRefused();
        forbidsNone();
        forbidsDaysOfThePage();
        forbidsFirstAndHowMany();
        suspectsRefused();
        suspectsNothingKnown();
        suspectsOneToThree();
        suspectsMoreThanThree();
        suspectsNotByAny();
        suspectsDaysOfThePage();
        suspectsWhatFollows();
        Due.end();
    }

    /**
     * Rules 0 'y', 1 'c1', 2 without clauses, 3 missing; page 0 of 6 days, 3 missing; row 0 the days of
     * page 0 by rule 0, row 5 missing; 7 by asked().
     */
    private static Witness chronicle(String part) {
        Witness w = new Witness(part);
        w.rule(0, "y").rule(1, "c1").rule(2, "").page(0, "n6 d1:2 d4:3");
        w.row(4, 7).row(0, 0, 2, 2, 2, 3, 3);
        w.tells(1, 7, "at", 4, 0);
        return w;
    }

    // ---- 34, 35

    private static void changeNumbers() {
        for (String name : CHANGE) {
            Witness w = chronicle("34 changed, 35 when: BAD: no such rule, page, row");
            for (int place = 0; place < 3; place++) w.refusesEach(BAD, place, NO_FOURTH, name, 0, 0, 0, 0);
            w.refusesEach(BAD, 3, NO_ROWS, name, 0, 0, 0, 0);
        }
    }

    private static void changeMissing() {
        for (String name : CHANGE) {
            Witness w = chronicle("34 changed, 35 when: NOTHING: any");
            w.finds(NOTHING, name, 3, 0, 0, 0);
            w.finds(NOTHING, name, 0, 3, 0, 0);
            w.finds(NOTHING, name, 0, 0, 3, 0);
            w.finds(NOTHING, name, 0, 0, 0, 5);
            w.finds(NOTHING, name, 3, 3, 3, 5);
        }
    }

    private static void changeSizes() {
        for (String name : CHANGE) {
            Witness w = chronicle("34 changed, 35 when: SIZE: not as many as the page has");
            for (int n : new int[] {0, 1, 5, 7, 24, 60}) {
                w.alike(1, n, 0);
                w.finds(SIZE, name, 0, 0, 0, 1);
            }
            w.page(1, "n24");
            for (int n : new int[] {23, 25}) {
                w.alike(1, n, 0);
                w.finds(SIZE, name, 2, 2, 1, 1);
            }
            w.page(1, "n1");
            for (int n : new int[] {0, 2}) {
                w.alike(1, n, 0);
                w.finds(SIZE, name, 2, 2, 1, 1);
            }
        }
    }

    private static void changeWeathers() {
        for (String name : CHANGE) {
            Witness w = chronicle("34 changed, 35 when: UNLIKE: no WEATHER, anywhere in the row; behind SIZE");
            for (int v : new int[] {-1, 4, LOW, HIGH}) {
                w.row(1, v, 2, 2, 2, 3, 3);
                w.finds(UNLIKE, name, 0, 0, 0, 1);
                w.row(1, 0, 2, 2, 2, 3, v);
                w.finds(UNLIKE, name, 0, 0, 0, 1);
                w.row(1, 0, 2, 2, 2, v);
                w.finds(SIZE, name, 0, 0, 0, 1);
            }
        }
    }

    private static void changeInOrder() {
        for (String name : CHANGE) {
            Witness w = chronicle("34 changed, 35 when: BAD, NOTHING, SIZE, UNLIKE, in this order");
            w.row(1, 4);
            w.refuses(BAD, name, 3, 3, 3, 6);
            w.refuses(BAD, name, 3, 3, 4, 5);
            w.refuses(BAD, name, 3, -1, 3, 5);
            w.refuses(BAD, name, 4, 3, 3, 5);
            w.refuses(BAD, name, 0, 4, 0, 1);
            w.finds(NOTHING, name, 3, 0, 0, 1);
            w.finds(NOTHING, name, 0, 3, 0, 1);
            w.finds(NOTHING, name, 0, 0, 3, 1);
            w.finds(SIZE, name, 0, 0, 0, 1);
        }
    }

    private static void changes(Witness w, int rule, int other, int page, int r, int bits) {
        int first = bits == 0 ? NONE : Integer.numberOfTrailingZeros(bits);
        w.tells(Integer.bitCount(bits), first, "changed", rule, other, page, r);
        w.tells(1, 7, "at", 4, 0);
        w.is(bits, "when", rule, other, page, r);
    }

    private static void changedOfOneDay() {
        Witness w = chronicle("34 changed, 35 when: of one day: t is 0 or 1");
        w.page(1, "n1").row(1, 1);
        changes(w, 1, 1, 1, 1, 3);
        changes(w, 1, 2, 1, 1, 2);
        changes(w, 2, 1, 1, 1, 1);
        changes(w, 2, 2, 1, 1, 0);
    }

    private static void changedOf24Days() {
        Witness w = chronicle("34 changed, 35 when: of 24 days: t is 0 .. 24");
        w.page(1, "n24").alike(1, 24, 0);
        changes(w, 2, 2, 1, 1, (1 << 25) - 1);
        changes(w, 2, 1, 1, 1, 1 << 24);
        changes(w, 1, 2, 1, 1, 1);
        changes(w, 0, 2, 1, 1, (1 << 25) - 1);
        changes(w, 1, 1, 1, 1, 0);
    }

    private static void changedOnNoDay() {
        Witness w = chronicle("34 changed, 35 when: none: 0, and NONE by asked()");
        changes(w, 1, 1, 0, 0, 0);
        changes(w, 1, 0, 0, 0, 1);
        changes(w, 0, 1, 0, 0, 1 << 6);
        changes(w, 2, 2, 0, 0, 0);
    }

    private static void changedJustTheLines() {
        Witness w = chronicle("34 changed, 35 when: just the LINES: none more, none fewer, none of another WEATHER");
        changes(w, 0, 0, 0, 0, 127);
        w.page(1, "n6 d1:1 d4:3");
        changes(w, 0, 0, 1, 0, 0);
        w.page(1, "n6 d1:2");
        changes(w, 0, 0, 1, 0, 0);
        w.page(1, "n6 d1:2 d4:3 d5:3");
        changes(w, 0, 0, 1, 0, 0);
        w.page(1, "n6 d0:0 d1:2 d4:3");
        changes(w, 0, 0, 1, 0, 0);
        // by 'c1' day 0 needs its line, by 'y' it does not; day 1 needs it by both
        changes(w, 1, 0, 1, 0, 2 + 4);
    }

    private static void changedWithin() {
        Witness w = chronicle("34 changed, 35 when: one RULE ahead of t, the other from t on");
        changes(w, 2, 0, 0, 0, 7);
        changes(w, 0, 2, 0, 0, 1 << 6);
        w.page(1, "n6 d3:0").row(1, 1, 1, 1, 0, 0, 0);
        changes(w, 1, 0, 1, 1, 1 << 1 | 1 << 2 | 1 << 3 | 1 << 4);
        w.page(1, "n6").row(1, 1, 1, 1, 0, 0, 0);
        changes(w, 1, 2, 1, 1, 1 << 3);
        changes(w, 2, 1, 1, 1, 0);
    }

    // ---- 36

    private static void joinedRefused() {
        Witness w = chronicle("36 joined: BAD; NOTHING: any");
        for (int place = 0; place < 4; place++) w.refusesEach(BAD, place, NO_FOURTH, "joined", 0, 0, 0, 0);
        w.refuses(BAD, "joined", 3, 3, 3, 4);
        w.refuses(BAD, "joined", 3, 3, 4, 3);
        w.refuses(BAD, "joined", 3, 4, 3, 3);
        w.refuses(BAD, "joined", 4, 3, 3, 3);
        for (int place = 0; place < 4; place++) {
            w.finds(NOTHING, "joined", Witness.with(Witness.these(0, 0, 0, 0), place, 3));
        }
        w.finds(NOTHING, "joined", 3, 3, 3, 3);
    }

    private static void joinedOneAnd24() {
        Witness w = chronicle("36 joined: days that both have, 1 to 24");
        w.page(1, "n24").page(2, "n1");
        w.tells(ALL_24, 24, "joined", 0, 1, 1, 1);
        w.tells(0, 24, "joined", 0, 1, 2, 1);
        w.tells(1, 1, "joined", 0, 1, 1, 2);
        w.tells(1, 1, "joined", 1, 2, 0, 1);
        w.tells(0, 1, "joined", 0, 2, 2, 2);
        w.tells(0, 1, "joined", 1, 1, 1, 2);
        w.page(3, "n24 d23:2");
        w.tells(1 << 23, 24, "joined", 0, 1, 0, 3);
        w.tells(1 << 23, 24, "joined", 0, 3, 0, 1);
        w.tells(0, 6, "joined", 2, 0, 2, 0);
    }

    private static void joinedDays() {
        Witness w = chronicle("36 joined: on which days (bits) they tell otherwise");
        w.page(1, "n3 d1:2").page(2, "n7 d1:2 d4:3 d6:1");
        w.tells(1 + 4 + 8 + 32, 6, "joined", 0, 0, 1, 0);
        w.tells(4, 3, "joined", 0, 0, 2, 1);
        w.tells(4, 3, "joined", 2, 1, 0, 0);
        w.tells(0, 6, "joined", 0, 0, 0, 2);
        w.tells(0, 7, "joined", 0, 2, 0, 2);
        // lines on day 0, of one page, of the other, of both
        w.page(1, "n3 d0:1").page(2, "n3 d0:2").page(3, "n3");
        w.tells(1, 3, "joined", 2, 1, 2, 3);
        w.tells(1, 3, "joined", 2, 3, 2, 1);
        w.tells(1, 3, "joined", 2, 1, 2, 2);
        w.tells(0, 3, "joined", 2, 1, 2, 1);
        w.tells(7, 3, "joined", 0, 1, 0, 2);
    }

    private static void joinedBehindLongerOnes() {
        Witness w = chronicle("36 joined: what longer pages told before does not count");
        w.page(1, "n24").page(2, "n1");
        w.tells(ALL_24, 24, "joined", 0, 1, 1, 1);
        w.tells(0, 1, "joined", 0, 2, 0, 2);
        w.tells(ALL_24, 24, "joined", 1, 1, 0, 1);
        w.tells(1, 1, "joined", 0, 2, 1, 2);
    }

    // ---- 37

    private static void followsPlaces() {
        Witness w = chronicle("37 follows: BEYOND: any i that is none");
        w.page(1, "n24").page(2, "n24 d0:1 d23:1");
        w.tells(3, 3, "follows", 0, 0, 0);
        w.tells(2, 5, "follows", 0, 0, 1);
        w.findsEach(BEYOND, 2, Witness.these(-1, 2, 4, -9, LOW, HIGH), "follows", 0, 0, 0);
        w.findsEach(BEYOND, 2, Witness.these(-1, 0, 1, LOW, HIGH), "follows", 0, 1, 0);
        w.findsEach(BEYOND, 2, Witness.these(-1, 2, 23, 24), "follows", 0, 2, 0);
    }

    private static void followsRefused() {
        Witness w = chronicle("37 follows: BAD; NOTHING: either, ahead of BEYOND");
        w.refusesEach(BAD, 0, NO_FOURTH, "follows", 0, 0, 0);
        w.refusesEach(BAD, 1, NO_FOURTH, "follows", 0, 0, 0);
        w.refuses(BAD, "follows", 4, 3, 9);
        w.refuses(BAD, "follows", 3, 4, 9);
        w.refuses(BAD, "follows", 4, 0, 9);
        w.finds(NOTHING, "follows", 3, 0, 0);
        w.finds(NOTHING, "follows", 0, 3, 0);
        w.finds(NOTHING, "follows", 3, 3, -1);
        w.finds(NOTHING, "follows", 3, 0, 9);
        w.finds(NOTHING, "follows", 0, 3, HIGH);
    }

    private static void followsNoneToAll() {
        Witness w = chronicle("37 follows: none (NONE by asked()) to all 24 days, the last by asked()");
        w.page(1, "n24 d0:1");
        w.tells(24, 23, "follows", 0, 1, 0);
        w.tells(0, NONE, "follows", 1, 1, 0);
        w.tells(1, 0, "follows", 2, 1, 0);
        w.page(1, "n24 d0:1 d12:2 d23:3");
        w.tells(12, 11, "follows", 0, 1, 0);
        w.tells(11, 22, "follows", 0, 1, 1);
        w.tells(1, 23, "follows", 0, 1, 2);
        w.page(2, "n1 d0:0");
        w.tells(0, NONE, "follows", 2, 2, 0);
        w.tells(1, 0, "follows", 1, 2, 0);
        // by b3 day 0 comes again on days 3 and 6, unless they have lines
        w.rule(3, "b3").page(2, "n8 d0:1 d3:1");
        w.tells(1, 0, "follows", 3, 2, 0);
        w.tells(0, NONE, "follows", 3, 2, 1);
    }

    private static void followsBehindLongerOnes() {
        Witness w = chronicle("37 follows: what longer pages told before does not count");
        w.page(1, "n24 d0:1").page(2, "n1 d0:1");
        w.tells(24, 23, "follows", 0, 1, 0);
        w.tells(1, 0, "follows", 0, 2, 0);
        w.tells(24, 23, "follows", 0, 1, 0);
        w.tells(0, NONE, "follows", 1, 2, 0);
    }

    // ---- 38

    private static void knowDaysAndWeathers() {
        Witness w = chronicle("38 know: days 0 .. 23, WEATHERS 0 .. 3");
        w.refusesEach(BAD, 0, NO_DAYS, "know", 0, 0);
        w.refusesEach(BAD, 1, NO_WEATHERS, "know", 0, 0);
        w.refuses(BAD, "know", 24, 4);
        w.refuses(BAD, "know", -1, -1);
        int[][] taken = {{0, 0}, {23, 3}, {0, 3}, {23, 0}};
        for (int i = 0; i < taken.length; i++) {
            w.known.add(taken[i]);
            w.is(i, "know", taken[i]);
        }
    }

    private static void knowEight() {
        Witness w = chronicle("38 know: its number, 0 .. 7; FULL: 8; a day may be told again");
        for (int i = 0; i < 8; i++) {
            w.known.add(Witness.these(5, i % 2));
            w.is(i, "know", 5, i % 2);
        }
        w.is(8, "count", 4);
        w.refuses(FULL, "know", 5, 0);
        w.refuses(FULL, "know", 0, 3);
        w.refuses(FULL, "know", 23, 0);
        w.is(8, "count", 4);
    }

    private static void knowBadAheadOfFull() {
        Witness w = chronicle("38 know: BAD goes ahead of FULL");
        for (int i = 0; i < 8; i++) w.know(i, 3);
        w.refusesEach(BAD, 0, NO_DAYS, "know", 0, 0);
        w.refusesEach(BAD, 1, NO_WEATHERS, "know", 0, 0);
        w.refuses(FULL, "know", 0, 0);
        w.known.remove(7);
        w.is(1, "forget", 7);
        w.refuses(BAD, "know", 24, 0);
        w.known.add(Witness.these(1, 1));
        w.is(7, "know", 1, 1);
        w.refuses(FULL, "know", 1, 1);
    }

    // ---- 39

    private static void forgetNumbers() {
        for (int size = 0; size <= 8; size += 4) {
            for (int n = 0; n <= size; n++) {
                Witness w = chronicle("39 forget: " + size + " are KNOWN; from number " + n + " on, how many went");
                for (int i = 0; i < size; i++) w.know(i, i % 4);
                w.known.subList(n, size).clear();
                w.is(size - n, "forget", n);
            }
        }
    }

    private static void forgetBelowAndAbove() {
        for (int size : new int[] {0, 1, 8}) {
            Witness w = chronicle("39 forget: BAD: below 0, or above how many are KNOWN");
            for (int i = 0; i < size; i++) w.know(i, 1);
            w.refuses(BAD, "forget", -1);
            w.refuses(BAD, "forget", size + 1);
            w.refuses(BAD, "forget", size + 2);
            w.refuses(BAD, "forget", LOW);
            w.refuses(BAD, "forget", HIGH);
            w.is(0, "forget", size);
        }
    }

    private static void forgetThenKnow() {
        Witness w = chronicle("39 forget: numbers go on from there; what went does not come back");
        for (int i = 0; i < 8; i++) w.know(i, 3);
        w.known.subList(2, 8).clear();
        w.is(6, "forget", 2);
        w.refuses(BAD, "forget", 3);
        w.known.add(Witness.these(20, 1));
        w.is(2, "know", 20, 1);
        w.known.clear();
        w.is(3, "forget", 0);
        w.is(0, "forget", 0);
        w.is(NONE, "forbids", 0, 0);
        w.known.add(Witness.these(0, 0));
        w.is(0, "know", 0, 0);
    }

    // ---- 40

    private static void forbidsRefused() {
        Witness w = chronicle("40 forbids: BAD; NOTHING: either");
        w.know(0, 3);
        w.refusesEach(BAD, 0, NO_FOURTH, "forbids", 0, 0);
        w.refusesEach(BAD, 1, NO_FOURTH, "forbids", 0, 0);
        w.refuses(BAD, "forbids", 4, 3);
        w.refuses(BAD, "forbids", 3, 4);
        w.finds(NOTHING, "forbids", 3, 0);
        w.finds(NOTHING, "forbids", 0, 3);
        w.finds(NOTHING, "forbids", 3, 3);
        w.tells(0, 1, "forbids", 0, 0);
    }

    private static void forbidsNone() {
        Witness w = chronicle("40 forbids: NONE: none; asked() stays");
        w.is(NONE, "forbids", 0, 0);
        w.know(0, 0).know(1, 2).know(3, 2).know(4, 3).know(5, 3);
        w.is(NONE, "forbids", 0, 0);
        w.tells(0, 3, "forbids", 1, 0);
        w.is(NONE, "forbids", 0, 0);
    }

    private static void forbidsDaysOfThePage() {
        Witness w = chronicle("40 forbids: of days that the page has, the last one, and one behind");
        w.know(6, 3).know(23, 0);
        w.is(NONE, "forbids", 0, 0);
        w.know(5, 0);
        w.tells(2, 1, "forbids", 0, 0);
        w.page(1, "n24 d23:1").page(2, "n1");
        w.tells(0, 3, "forbids", 1, 1);
        w.tells(0, 2, "forbids", 2, 1);
        w.is(NONE, "forbids", 0, 2);
    }

    private static void forbidsFirstAndHowMany() {
        Witness w = chronicle("40 forbids: the first, 0 .. 7; how many, 1 .. 8");
        for (int i = 0; i < 7; i++) w.know(1, 2);
        w.know(2, 0);
        w.tells(7, 1, "forbids", 0, 0);
        w.is(NONE, "forbids", 2, 0);
        w.forget(0);
        for (int i = 0; i < 8; i++) w.know(i % 6, 1);
        w.tells(0, 8, "forbids", 0, 0);
        w.tells(1, 3, "forbids", 1, 0);
        // known twice, once so and once not
        w.forget(0).know(0, 0).know(0, 1);
        w.tells(1, 1, "forbids", 0, 0);
        w.tells(0, 1, "forbids", 1, 0);
        // a line on day 0
        w.page(1, "n2 d0:1");
        w.tells(0, 1, "forbids", 2, 1);
        w.forget(0).know(0, 1).know(1, 1);
        w.is(NONE, "forbids", 0, 1);
        w.tells(1, 1, "forbids", 2, 1);
    }

    // ---- 41

    /** Rule 2 tells 0 of all days; page 1 has a line of weather 1 on each of 24 days. */
    private static Witness allLines(String part) {
        Witness w = chronicle(part);
        w.alike(1, 24, 1);
        int[] page = new int[49];
        page[0] = 24;
        for (int d = 0; d < 24; d++) {
            page[1 + 2 * d] = d;
            page[2 + 2 * d] = 1;
        }
        w.pages[1] = page;
        w.is(24, "write", 2, 1, 1);
        return w;
    }

    private static void suspectsRefused() {
        Witness w = chronicle("41 suspects: BAD; NOTHING: either");
        w.refusesEach(BAD, 0, NO_FOURTH, "suspects", 0, 0);
        w.refusesEach(BAD, 1, NO_FOURTH, "suspects", 0, 0);
        w.refuses(BAD, "suspects", 4, 3);
        w.refuses(BAD, "suspects", 3, 4);
        w.finds(NOTHING, "suspects", 3, 0);
        w.finds(NOTHING, "suspects", 0, 3);
        w.finds(NOTHING, "suspects", 3, 3);
        w.tells(3, 0, "suspects", 0, 0);
    }

    private static void suspectsNothingKnown() {
        Witness w = allLines("41 suspects: nothing is KNOWN: each LINE may be left out, 0 must be");
        w.page(2, "n24");
        w.tells(ALL_24, 0, "suspects", 2, 1);
        w.tells(0, 0, "suspects", 2, 2);
        w.tells(3, 0, "suspects", 0, 0);
        w.know(0, 1);
        w.tells(ALL_24 - 1, 0, "suspects", 2, 1);
        w.know(23, 1);
        w.tells(ALL_24 - 1 - (1 << 23), 0, "suspects", 2, 1);
    }

    private static void suspectsOneToThree() {
        Witness w = allLines("41 suspects: the least number of LINES that must be left out, 1 to 3");
        w.know(23, 0);
        w.tells(1 << 23, 1, "suspects", 2, 1);
        w.know(0, 0);
        w.tells(0, 2, "suspects", 2, 1);
        w.know(12, 0);
        w.tells(0, 3, "suspects", 2, 1);
        w.know(12, 0).know(11, 1);
        w.tells(0, 3, "suspects", 2, 1);
        w.forget(0).know(0, 0);
        w.tells(1, 1, "suspects", 2, 1);
        w.know(1, 0).know(2, 0);
        w.tells(0, 3, "suspects", 2, 1);
        w.forget(0).know(21, 0).know(22, 0).know(23, 0);
        w.tells(0, 3, "suspects", 2, 1);
    }

    private static void suspectsMoreThanThree() {
        Witness w = allLines("41 suspects: NONE: more than 3");
        w.know(0, 0).know(7, 0).know(15, 0).know(23, 0);
        w.tells(0, NONE, "suspects", 2, 1);
        w.forget(3);
        w.tells(0, 3, "suspects", 2, 1);
        w.know(1, 0).know(2, 0).know(3, 0).know(4, 0).know(5, 0);
        w.tells(0, NONE, "suspects", 2, 1);
    }

    private static void suspectsNotByAny() {
        Witness w = allLines("41 suspects: NONE: not by any");
        w.page(2, "n24");
        w.know(0, 2);
        w.tells(0, NONE, "suspects", 2, 1);
        w.tells(0, NONE, "suspects", 2, 2);
        w.forget(0).know(3, 0).know(3, 1);
        w.tells(0, NONE, "suspects", 2, 1);
        w.tells(0, NONE, "suspects", 2, 2);
        w.forget(1);
        w.tells(0, 0, "suspects", 2, 2);
        w.tells(0, NONE, "suspects", 1, 2);
    }

    private static void suspectsDaysOfThePage() {
        Witness w = chronicle("41 suspects: of days that the page has, the last one, and one behind");
        w.know(6, 0).know(23, 0);
        w.tells(3, 0, "suspects", 0, 0);
        w.know(5, 2);
        w.tells(2, 1, "suspects", 0, 0);
        w.forget(2).know(5, 3);
        w.tells(1, 0, "suspects", 0, 0);
    }

    /** By 'y' what is left out goes on behind: one line may be to blame for many days, or two for one. */
    private static void suspectsWhatFollows() {
        Witness w = chronicle("41 suspects: what follows of a LINE that is left out counts");
        w.know(5, 2);
        w.tells(2, 1, "suspects", 0, 0);
        w.know(2, 2);
        w.tells(2, 1, "suspects", 0, 0);
        w.know(1, 0);
        w.tells(0, NONE, "suspects", 0, 0);
        w.forget(0).know(5, 0);
        w.tells(0, 2, "suspects", 0, 0);
        w.know(4, 0).know(3, 0).know(2, 0).know(1, 0).know(0, 0);
        w.tells(0, 2, "suspects", 0, 0);
        w.page(2, "n9 d1:1 d3:2 d5:3 d7:1").forget(0).know(8, 0);
        w.tells(0, NONE, "suspects", 0, 2);
        w.page(2, "n9 d1:1 d3:2 d5:3");
        w.tells(0, 3, "suspects", 0, 2);
        w.forget(0).know(8, 1);
        w.tells(0, 2, "suspects", 0, 2);
        w.forget(0).know(8, 2);
        w.tells(4, 1, "suspects", 0, 2);
    }
}
