/** Promises 29 to 33, each sentence that names a boundary: a rule that is unknown. */
public final class EdgesUnknownTest {
    private static final int BAD = Witness.BAD, NONE = Witness.NONE;
    private static final int NOTHING = Witness.NOTHING, BEYOND = Witness.BEYOND, NOUGHT = Witness.NOUGHT;
    private static final int LOW = Witness.LOW, HIGH = Witness.HIGH;
    private static final int[] NO_PAGES = {-1, 4, 5, LOW, HIGH}, NO_SIZES = {0, 3, -1, LOW, HIGH};
    private static final String[] ALL = {"rules", "agree", "ask", "likely", "left"};
    /** Day 0 forbids all but c1 .. c3 and s k:1 .. 3; day 1 all s, the days 2 to 4 all c. */
    private static final String BY_NONE_OF_ONE = "n5d0:0d1:0d2:2d3:1d4:3";
    private static final String BY_NONE_OF_TWO = "n10d0:0d1:0d2:1d3:3d4:0d5:2d6:2d7:0d8:3d9:0";

    public static void main(String[] args) {
        pagesThatThereAre();
        sizesThatThereAre();
        missing();
        rulesOfPagesWithoutLines();
        rulesOfOneDay();
        rulesByNone();
        rulesByTryingAll();
        agreeOnDays();
        agreeByNone();
        askTheFirstOfAlike();
        askOneDayAnd24();
        askByNone();
        likelyDaysAndWeathers();
        likelyInOrder();
        likelyInLowestTerms();
        likelyByNone();
        leftByNothing();
        leftByDaysOfThePage();
        leftByEight();
        leftByNone();
        leftRefused();
        onlyLeftLooksAtWhatIsKnown();
        Due.end();
    }

    private static int[] of(String name, int page, int size) {
        return name.equals("likely") ? Witness.these(page, size, 0, 0) : Witness.these(page, size);
    }

    /** 7 by asked(), 8 by 9 by upper() and lower(); page 0 of 2 days. */
    private static Witness told(String part) {
        Witness w = new Witness(part);
        w.page(0, "n2 d0:0").row(0, 7);
        w.fraction(24, 8, 9, "likely", 0, 1, 1, 0);
        w.tells(1, 7, "at", 0, 0);
        return w;
    }

    // ---- what is refused by all five

    private static void pagesThatThereAre() {
        for (String name : ALL) {
            Witness w = told("29 rules .. 33 left: BAD: no such page");
            for (int size = 1; size <= 2; size++) {
                w.refusesEach(BAD, 0, NO_PAGES, name, of(name, 0, size));
            }
            w.refusesEach(BAD, 0, NO_PAGES, name, of(name, 0, 0));
        }
    }

    private static void sizesThatThereAre() {
        for (String name : ALL) {
            Witness w = told("29 rules .. 33 left: BAD: SIZE is 1 or 2; also of a missing page");
            w.refusesEach(BAD, 1, NO_SIZES, name, of(name, 0, 1));
            w.refusesEach(BAD, 1, NO_SIZES, name, of(name, 3, 1));
        }
    }

    private static void missing() {
        for (String name : ALL) {
            Witness w = told("29 rules .. 33 left: NOTHING: the page is missing");
            for (int size = 1; size <= 2; size++) {
                w.findsEach(NOTHING, 0, Witness.these(1, 2, 3), name, of(name, 0, size));
            }
        }
    }

    // ---- 29

    private static void rulesOfPagesWithoutLines() {
        Witness w = new Witness("29 rules: all RULES of a SIZE make a page without lines possible");
        w.page(0, "n1").page(3, "n24").row(0, 7);
        for (int k = 0; k <= 3; k += 3) {
            w.tells(1, 7, "at", 0, 0);
            w.tells(59, 0, "rules", k, 1);
            w.tells(1, 7, "at", 0, 0);
            w.tells(3540, 0, "rules", k, 2);
        }
    }

    /** A line of weather 0 leaves 9 * 3 of one clause; another one all but 9. */
    private static void rulesOfOneDay() {
        Witness w = new Witness("29 rules: no LINE is IDLE; the first one by asked()");
        for (int v = 0; v < 4; v++) {
            w.page(1, "n1 d0:" + v);
            w.tells(v == 0 ? 27 : 50, v == 0 ? 1 : 0, "rules", 1, 1);
            w.tells(3540 - (v == 0 ? 32 + 9 * 59 + 23 * 32 : 9 + 9 * 59 + 23 * 9), v == 0 ? 1 : 0, "rules", 1, 2);
        }
    }

    private static void rulesByNone() {
        Witness w = new Witness("29 rules: 0, and NONE by asked(), if there is none");
        w.page(0, BY_NONE_OF_ONE).row(0, 7);
        w.tells(1, 7, "at", 0, 0);
        w.tells(0, NONE, "rules", 0, 1);
        w.tells(103, 355, "rules", 0, 2);
        w.page(0, BY_NONE_OF_TWO);
        w.tells(0, NONE, "rules", 0, 1);
        w.tells(0, NONE, "rules", 0, 2);
    }

    private static void rulesByTryingAll() {
        String[] pages = {"n9 d0:1 d4:2 d8:0", "n24 d23:3", "n7 d0:0 d1:0 d2:0", "n12 d2:1 d3:1 d11:2", BY_NONE_OF_ONE};
        for (String signs : pages) {
            Witness w = new Witness("29 rules, 33 left: by trying all, " + signs);
            w.page(2, signs).know(0, 1).know(4, 2);
            for (int size = 1; size <= 2; size++) {
                int such = 0, first = NONE, left = 0, firstLeft = NONE;
                for (int number = (size == 1 ? 59 : 3540) - 1; number >= 0; number--) {
                    if (!Plain.isPossible(Plain.rule(number), w.pages[2])) continue;
                    such++;
                    first = number;
                    int[] days = Plain.days(Plain.rule(number), w.pages[2]);
                    if (days[0] != 1 || days[4] != 2) continue;
                    left++;
                    firstLeft = number;
                }
                w.tells(such, first, "rules", 2, size);
                w.tells(left, firstLeft, "left", 2, size);
            }
        }
    }

    // ---- 30

    private static void agreeOnDays() {
        Witness w = told("30 agree: days (bits), the first and the last of 24; of lines all RULES agree");
        w.page(1, "n24").page(2, "n24 d0:1 d23:2").page(3, "n1 d0:3");
        w.is(0, "agree", 1, 1);
        w.is(0, "agree", 1, 2);
        w.is(1 + (1 << 23), "agree", 2, 1);
        w.is(1 + (1 << 23), "agree", 2, 2);
        w.is(1, "agree", 3, 1);
        w.is(1, "agree", 3, 2);
        w.is(1, "agree", 0, 1);
        w.page(3, "n1");
        w.is(0, "agree", 3, 1);
    }

    private static void agreeByNone() {
        Witness w = told("30 agree: NOUGHT: there are none");
        w.page(1, BY_NONE_OF_ONE).page(2, BY_NONE_OF_TWO);
        w.finds(NOUGHT, "agree", 1, 1);
        w.is(31, "agree", 1, 2);
        w.finds(NOUGHT, "agree", 2, 1);
        w.finds(NOUGHT, "agree", 2, 2);
        w.refuses(BAD, "agree", 2, 3);
    }

    // ---- 31

    private static void askTheFirstOfAlike() {
        Witness w = new Witness("31 ask: of alike days the first; if all agree on all days, day 0");
        w.page(0, "n2 d0:0 d1:1");
        w.tells(0, 26, "ask", 0, 1);
        w.page(1, BY_NONE_OF_ONE);
        w.tells(0, 103, "ask", 1, 2);
        // c1 .. c3 tell days 1 and 2 as they are, s2:v day 2, too: 24 tell 0 of day 1, 21 of day 2
        w.page(2, "n3 d0:0");
        w.tells(2, 21, "ask", 2, 1);
        w.page(2, "n4 d0:0");
        w.tells(2, 21, "ask", 2, 1);
    }

    private static void askOneDayAnd24() {
        Witness w = new Witness("31 ask: one day is the only one; the last one of 24");
        w.page(0, "n1").page(1, "n1 d0:1");
        w.tells(0, 32, "ask", 0, 1);
        w.tells(0, 1299, "ask", 0, 2);
        w.tells(0, 50, "ask", 1, 1);
        StringBuilder signs = new StringBuilder("n24");
        for (int d = 0; d < 23; d++) signs.append('d').append(d).append(":1");
        w.page(2, signs.toString());
        int[] due = mostOfDay23(w.pages[2]);
        w.tells(23, due[0], "ask", 2, 1);
        w.tells(23, due[1], "ask", 2, 2);
    }

    private static int[] mostOfDay23(int[] page) {
        int[] most = new int[2];
        for (int size = 1; size <= 2; size++) {
            int[] such = new int[4];
            for (int number = 0; number < (size == 1 ? 59 : 3540); number++) {
                if (Plain.isPossible(Plain.rule(number), page)) such[Plain.days(Plain.rule(number), page)[23]]++;
            }
            for (int v = 0; v < 4; v++) most[size - 1] = Math.max(most[size - 1], such[v]);
        }
        return most;
    }

    private static void askByNone() {
        Witness w = told("31 ask: NOUGHT: there are none");
        w.page(1, BY_NONE_OF_ONE).page(2, BY_NONE_OF_TWO);
        w.finds(NOUGHT, "ask", 1, 1);
        w.finds(NOUGHT, "ask", 2, 1);
        w.finds(NOUGHT, "ask", 2, 2);
        w.tells(1, 24, "ask", 0, 1);
    }

    // ---- 32

    private static void likelyDaysAndWeathers() {
        Witness w = told("32 likely: BAD: a day not 0 .. 23, a WEATHER not 0 .. 3; BEYOND: no such day");
        w.refusesEach(BAD, 2, Witness.these(-1, 24, 25, LOW, HIGH), "likely", 0, 1, 0, 0);
        w.refusesEach(BAD, 3, Witness.these(-1, 4, 5, LOW, HIGH), "likely", 0, 1, 0, 0);
        w.findsEach(BEYOND, 2, Witness.these(2, 3, 23), "likely", 0, 1, 0, 0);
        w.findsEach(BEYOND, 2, Witness.these(2, 23), "likely", 0, 2, 0, 3);
        w.fraction(27, 1, 1, "likely", 0, 1, 0, 0);
        w.fraction(1, 1, 27, "likely", 0, 1, 1, 3);
        w.page(1, "n24");
        w.fraction(32, 32, 59, "likely", 1, 1, 0, 0);
        int last = tellThreeOnDay23(w.pages[1]);
        w.fraction(last, last, 59, "likely", 1, 1, 23, 3);
    }

    /** How many rules of one clause tell 3 of day 23; 59 is a prime, so that the fraction stays. */
    private static int tellThreeOnDay23(int[] page) {
        int such = 0;
        for (int number = 0; number < 59; number++) if (Plain.days(Plain.rule(number), page)[23] == 3) such++;
        return such;
    }

    private static void likelyInOrder() {
        Witness w = told("32 likely: BAD, NOTHING, BEYOND, NOUGHT, in this order");
        w.page(1, BY_NONE_OF_ONE);
        w.refuses(BAD, "likely", 3, 1, 24, 0);
        w.refuses(BAD, "likely", 3, 1, 0, 4);
        w.refuses(BAD, "likely", 0, 1, 2, 4);
        w.refuses(BAD, "likely", 0, 0, 2, 0);
        w.refuses(BAD, "likely", 1, 1, -1, 0);
        w.refuses(BAD, "likely", 1, 3, 0, 0);
        w.finds(NOTHING, "likely", 3, 1, 2, 0);
        w.finds(NOTHING, "likely", 3, 2, 23, 3);
        w.finds(BEYOND, "likely", 1, 1, 5, 0);
        w.finds(BEYOND, "likely", 1, 1, 23, 0);
        w.finds(NOUGHT, "likely", 1, 1, 4, 0);
    }

    private static void likelyInLowestTerms() {
        Witness w = told("32 likely: in lowest terms, the lower number above 0; 0 by 1; 1 by 1");
        w.fraction(24, 8, 9, "likely", 0, 1, 1, 0);
        w.fraction(0, 0, 1, "likely", 0, 1, 0, 1);
        w.fraction(27, 1, 1, "likely", 0, 1, 0, 0);
        w.fraction(0, 0, 1, "likely", 0, 1, 0, 3);
        w.fraction(0, 0, 1, "likely", 0, 2, 0, 3);
        w.page(1, "n1");
        w.fraction(9, 9, 59, "likely", 1, 1, 0, 1);
        w.fraction(1299, 433, 1180, "likely", 1, 2, 0, 0);
        w.fraction(747, 83 * 3, 1180, "likely", 1, 2, 0, 3);
        w.finds(BEYOND, "likely", 1, 2, 1, 0);
        w.page(2, "n1 d0:2");
        w.fraction(50, 1, 1, "likely", 2, 1, 0, 2);
        w.fraction(0, 0, 1, "likely", 2, 1, 0, 0);
    }

    private static void likelyByNone() {
        Witness w = told("32 likely: NOUGHT: there are none; the fraction stays");
        w.page(1, BY_NONE_OF_ONE).page(2, BY_NONE_OF_TWO);
        for (int v = 0; v < 4; v++) w.finds(NOUGHT, "likely", 1, 1, 0, v);
        w.finds(NOUGHT, "likely", 2, 1, 9, 0);
        w.finds(NOUGHT, "likely", 2, 2, 9, 0);
        w.fraction(103, 1, 1, "likely", 1, 2, 4, 3);
        w.fraction(0, 0, 1, "likely", 1, 2, 4, 2);
    }

    // ---- 33

    private static void leftByNothing() {
        Witness w = told("33 left: nothing is KNOWN: as many as make the page possible");
        w.tells(27, 1, "left", 0, 1);
        w.tells(27, 1, "rules", 0, 1);
        w.page(1, "n24");
        w.tells(59, 0, "left", 1, 1);
        w.tells(3540, 0, "left", 1, 2);
    }

    private static void leftByDaysOfThePage() {
        Witness w = told("33 left: of days that the page has, the last one, and one behind");
        w.know(2, 3).know(23, 3);
        w.tells(27, 1, "left", 0, 1);
        w.know(1, 0);
        w.tells(24, 12, "left", 0, 1);
        w.forget(2).know(1, 3);
        w.tells(1, 3, "left", 0, 1);
        w.forget(0).know(0, 0);
        w.tells(27, 1, "left", 0, 1);
        w.page(1, "n24").know(23, 3);
        int[] lastOf = leftOnDay23(w.pages[1]);
        w.tells(lastOf[0], lastOf[1], "left", 1, 1);
    }

    /** Of the rules of one clause, those that tell 0 of day 0 and 3 of day 23: how many, the first. */
    private static int[] leftOnDay23(int[] page) {
        int[] left = {0, NONE};
        for (int number = 58; number >= 0; number--) {
            int[] days = Plain.days(Plain.rule(number), page);
            if (days[0] != 0 || days[23] != 3) continue;
            left[0]++;
            left[1] = number;
        }
        return left;
    }

    private static void leftByEight() {
        Witness w = new Witness("33 left: all 8 that are KNOWN count, the eighth, too");
        w.page(0, "n8");
        for (int d = 0; d < 7; d++) w.know(d, 1);
        w.tells(1, 1, "left", 0, 1);
        w.know(7, 1);
        w.tells(1, 1, "left", 0, 1);
        w.forget(7).know(7, 0);
        w.tells(0, NONE, "left", 0, 1);
        // no two clauses tell 1 of the days 0 .. 6 and 0 of day 7: s7:0 would tell day 0, too
        w.tells(0, NONE, "left", 0, 2);
        w.forget(7).know(8, 0);
        w.tells(1, 1, "left", 0, 1);
    }

    private static void leftByNone() {
        Witness w = told("33 left: 0, and NONE by asked(), if there is none; no NOUGHT");
        w.page(1, BY_NONE_OF_ONE).page(2, BY_NONE_OF_TWO);
        w.tells(0, NONE, "left", 1, 1);
        w.tells(103, 355, "left", 1, 2);
        w.tells(0, NONE, "left", 2, 2);
        w.know(0, 1);
        w.tells(0, NONE, "left", 0, 1);
        w.tells(0, NONE, "left", 0, 2);
        w.tells(0, NONE, "left", 1, 2);
        w.forget(0).know(1, 2).know(1, 3);
        w.tells(0, NONE, "left", 0, 2);
        w.forget(1);
        w.tells(1, 2, "left", 0, 1);
    }

    private static void leftRefused() {
        Witness w = told("33 left: refused, whatever is KNOWN");
        w.know(0, 3).know(23, 1);
        w.refuses(BAD, "left", 4, 1);
        w.refuses(BAD, "left", 3, 3);
        w.finds(NOTHING, "left", 3, 1);
        w.tells(0, NONE, "left", 0, 1);
    }

    private static void onlyLeftLooksAtWhatIsKnown() {
        Witness w = told("29 rules .. 32 likely: what is KNOWN does not count");
        w.know(0, 3).know(1, 3);
        w.tells(27, 1, "rules", 0, 1);
        w.is(1, "agree", 0, 1);
        w.tells(1, 24, "ask", 0, 1);
        w.fraction(24, 8, 9, "likely", 0, 1, 1, 0);
        w.tells(0, NONE, "left", 0, 1);
        w.tells(27, 1, "rules", 0, 1);
    }
}
