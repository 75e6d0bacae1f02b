/**
 * A chronicle in which a day is written down only if it was not as its keeper's rule would have it.
 * The document's numbered promises say what each call answers; README.md says how to use it.
 */
public final class OtherwiseBook {
    public static final int BAD = -1, FULL = -2, FINDING = -3, STATE = -4, SPENT = -6, NONE = -9;

    private static final int NOTHING = 1, BEYOND = 2, UNLIKE = 3, NOUGHT = 4, SIZE = 5;
    private static final int FINDINGS = 5;

    /** What a bar answers if it lets a call through: no refusal is 0. */
    private static final int FINE = 0;

    private static final int ROWS = 6, TEXTS = 4, RULES = 4, PAGES = 4, KEPT = 3;
    private static final int MOST_INTS = 60, MOST_BYTES = 120;
    private static final int MOST_DAYS = 24, WEATHERS = 4, MOST_CLAUSES = 4, MOST_KNOWN = 8;
    private static final int MOST_BURNT = 8, MOST_BURNT_LINES = 3, MOST_LEFT_OUT = 3;
    private static final int COUNTS = 8;

    private static final int PLAIN = 1, BACK = 2, EACH = 3, AFTER = 4, YESTERDAY = 5;
    /** The first NUMBERS of the KINDS of CLAUSES that are not 0, and how many NUMBERS there are. */
    private static final int Y_NUMBER = 4, B_NUMBER = 5, S_NUMBER = 11, A_NUMBER = 43, NUMBERS = 59;
    /** How many RULES there are of SIZE 2: those of one CLAUSE, and those of two. */
    private static final int RULES_OF_TWO = NUMBERS + NUMBERS * NUMBERS;

    private final Row[] rows;
    private final Text[] texts;
    private final Rule[] rules;
    private final Page[] pages;
    private final Reading reading;
    private final Reading[] kept;
    private final Known known;
    private final Known nothingKnown;
    private final Parser parser;
    private final Tally tally;
    private final Scale scale;
    private final Leaf leaf;
    private final int[] someDays;
    private final int[] otherDays;
    private final int[] answeredFindings;
    private int latestFinding;
    private int told;
    private long upperNumber;
    private long lowerNumber;

    public OtherwiseBook() {
        rows = new Row[ROWS];
        for (int r = 0; r < ROWS; r++) rows[r] = new Row();
        texts = new Text[TEXTS];
        for (int t = 0; t < TEXTS; t++) texts[t] = new Text();
        rules = new Rule[RULES];
        for (int k = 0; k < RULES; k++) rules[k] = new Rule();
        pages = new Page[PAGES];
        for (int k = 0; k < PAGES; k++) pages[k] = new Page();
        reading = new Reading();
        kept = new Reading[KEPT];
        for (int k = 0; k < KEPT; k++) kept[k] = new Reading();
        known = new Known();
        nothingKnown = new Known();
        parser = new Parser();
        tally = new Tally();
        scale = new Scale();
        leaf = new Leaf();
        someDays = new int[MOST_DAYS];
        otherDays = new int[MOST_DAYS];
        answeredFindings = new int[FINDINGS + 1];
        latestFinding = 0;
        told = 0;
        upperNumber = 0;
        lowerNumber = 1;
    }

    // ---- 1 rows, texts, rules, pages

    public int row(int r, int n) {
        if (!within(r, ROWS) || n > MOST_INTS) return BAD;
        if (n < 0) return found(SIZE);
        rows[r].begin(n);
        return n;
    }

    public int lay(int r, int i, int v) {
        int bar = barPlace(r, i);
        if (bar != FINE) return bar;
        told = rows[r].ints[i];
        rows[r].ints[i] = v;
        return 1;
    }

    public int at(int r, int i) {
        int bar = barPlace(r, i);
        if (bar != FINE) return bar;
        told = rows[r].ints[i];
        return 1;
    }

    public int tear(int r) {
        if (!within(r, ROWS)) return BAD;
        if (rows[r].isMissing()) return found(NOTHING);
        rows[r].size = -1;
        return 1;
    }

    public int copy(int r, int i, int to, int j, int n) {
        if (!within(r, ROWS) || !within(to, ROWS)) return BAD;
        if (n < 0) return found(SIZE);
        Row source = rows[r];
        Row target = rows[to];
        if (source.isMissing() || target.isMissing()) return found(NOTHING);
        if (!source.hasSpan(i, n) || !target.hasSpan(j, n)) return found(BEYOND);
        System.arraycopy(source.ints, i, target.ints, j, n);
        return 1;
    }

    public int mean(int r) {
        if (!within(r, ROWS)) return BAD;
        if (rows[r].isMissing()) return found(NOTHING);
        int size = rows[r].size;
        if (size <= 0) return found(NOUGHT);
        told = (int) (rows[r].sum() / size);
        return 1;
    }

    public int text(int t, int n) {
        if (!within(t, TEXTS) || n > MOST_BYTES) return BAD;
        if (n < 0) return found(SIZE);
        texts[t].begin(n);
        return n;
    }

    public int put(int t, int i, int v) {
        if (!within(t, TEXTS)) return BAD;
        if (texts[t].isMissing()) return found(NOTHING);
        if (!within(i, texts[t].size)) return found(BEYOND);
        int was = texts[t].bytes[i];
        texts[t].bytes[i] = (byte) v;
        return was + 1000;
    }

    public int fault(int t, boolean page) {
        if (!within(t, TEXTS)) return BAD;
        if (texts[t].isMissing()) return found(NOTHING);
        return page ? parser.pageFault(texts[t]) : parser.ruleFault(texts[t]);
    }

    public int rule(int k, int t) {
        if (!within(k, RULES) || !within(t, TEXTS)) return BAD;
        if (texts[t].isMissing()) return found(NOTHING);
        if (parser.ruleFault(texts[t]) != NONE) return STATE;
        rules[k].become(parser.rule);
        return rules[k].size;
    }

    public int numbered(int k, int number) {
        if (!within(k, RULES) || !within(number, RULES_OF_TWO)) return BAD;
        rules[k].becomeNumber(number);
        return rules[k].size;
    }

    public int page(int k, int t) {
        if (!within(k, PAGES) || !within(t, TEXTS)) return BAD;
        if (texts[t].isMissing()) return found(NOTHING);
        if (parser.pageFault(texts[t]) != NONE) return STATE;
        pages[k].become(parser.page);
        return pages[k].howManyLines();
    }

    public int clause(int k, int i) {
        int bar = barClause(k, i);
        if (bar != FINE) return bar;
        int number = rules[k].numbers[i];
        told = kindOf(number);
        return number;
    }

    public int mark(int k, int i, int kind) {
        if (kind < PLAIN || kind > YESTERDAY) return BAD;
        int bar = barClause(k, i);
        if (bar != FINE) return bar;
        int number = rules[k].numbers[i];
        if (!isOfKind(number, kind)) return found(UNLIKE);
        return markOf(number, kind);
    }

    public int line(int k, int i) {
        if (!within(k, PAGES)) return BAD;
        if (pages[k].isMissing()) return found(NOTHING);
        int day = pages[k].dayOfLine(i);
        if (!within(day, MOST_DAYS)) return found(BEYOND);
        told = pages[k].lines[day];
        return day;
    }

    public int expects(int k, int r) {
        if (!within(k, RULES) || !within(r, ROWS)) return BAD;
        if (rules[k].isMissing() || rows[r].isMissing()) return found(NOTHING);
        int day = rows[r].size;
        if (day >= MOST_DAYS) return found(SIZE);
        if (!rows[r].areWeathers()) return found(UNLIKE);
        told = rules[k].teller(rows[r].ints, day);
        return rules[k].expected(rows[r].ints, day);
    }

    // ---- 2 days from a page, pages from days

    public int days(int rule, int page, int r) {
        if (!within(r, ROWS)) return BAD;
        int bar = barChronicle(rule, page);
        if (bar != FINE) return bar;
        Page source = pages[page];
        rows[r].begin(source.days);
        source.unfold(rules[rule], 0, rows[r].ints);
        told = source.idleLines(rules[rule], rows[r].ints);
        return source.days;
    }

    public int write(int rule, int r, int page) {
        if (!within(rule, RULES) || !within(r, ROWS) || !within(page, PAGES)) return BAD;
        if (rules[rule].isMissing() || rows[r].isMissing()) return found(NOTHING);
        int bar = barDays(rows[r]);
        if (bar != FINE) return bar;
        pages[page].record(rules[rule], rows[r]);
        return pages[page].howManyLines();
    }

    public int fewest(int r, int size) {
        int bar = barWeighing(r, size);
        if (bar != FINE) return bar;
        scale.weigh(rows[r], size);
        told = scale.first;
        return scale.fewestLines;
    }

    public int many(int r, int size) {
        int bar = barWeighing(r, size);
        if (bar != FINE) return bar;
        scale.weigh(rows[r], size);
        return scale.alike;
    }

    public int open(int rule, int page) {
        int bar = barChronicle(rule, page);
        if (bar != FINE) return bar;
        reading.begin(rules[rule], pages[page]);
        return reading.days;
    }

    public int read() {
        if (reading.isMissing()) return STATE;
        int day = reading.read;
        if (day >= reading.days || !within(day, MOST_DAYS)) return SPENT;
        reading.read = day + 1;
        told = (reading.lined >> day) & 1;
        return reading.weathers[day];
    }

    public int keep(int k) {
        if (!within(k, KEPT)) return BAD;
        if (reading.isMissing()) return STATE;
        kept[k].become(reading);
        return reading.read;
    }

    public int on(int k) {
        if (!within(k, KEPT)) return BAD;
        if (kept[k].isMissing()) return found(NOTHING);
        reading.become(kept[k]);
        return reading.read;
    }

    // ---- 3 a leaf that is burnt

    public int worlds(int rule, int page, int i, int j, int m) {
        int bar = barLeaf(rule, page, i, j, m);
        if (bar != FINE) return bar;
        leaf.burn(rules[rule], pages[page], i, j, m);
        return leaf.worldsLeft;
    }

    public int sure(int rule, int page, int i, int j, int m) {
        int bar = barLeaf(rule, page, i, j, m);
        if (bar != FINE) return bar;
        leaf.burn(rules[rule], pages[page], i, j, m);
        if (leaf.worldsLeft == 0) return found(NOUGHT);
        return leaf.sureDays(pages[page].days);
    }

    public int can(int rule, int page, int i, int j, int m, int d) {
        if (!within(d, MOST_DAYS)) return BAD;
        int bar = barLeaf(rule, page, i, j, m);
        if (bar != FINE) return bar;
        if (d >= pages[page].days) return found(BEYOND);
        leaf.burn(rules[rule], pages[page], i, j, m);
        return leaf.seen[d];
    }

    // ---- 4 a rule that is unknown

    public int rules(int page, int size) {
        int bar = barUnknown(page, size);
        if (bar != FINE) return bar;
        tally.gather(pages[page], size, nothingKnown);
        told = tally.first;
        return tally.total;
    }

    public int agree(int page, int size) {
        int bar = barUnknown(page, size);
        if (bar != FINE) return bar;
        tally.gather(pages[page], size, nothingKnown);
        if (tally.total == 0) return found(NOUGHT);
        return tally.agreedDays(pages[page].days);
    }

    public int ask(int page, int size) {
        int bar = barUnknown(page, size);
        if (bar != FINE) return bar;
        tally.gather(pages[page], size, nothingKnown);
        if (tally.total == 0) return found(NOUGHT);
        int day = tally.partingDay(pages[page].days);
        told = tally.mostAlike(day);
        return day;
    }

    public int likely(int page, int size, int d, int v) {
        if (!within(d, MOST_DAYS) || !within(v, WEATHERS)) return BAD;
        int bar = barUnknown(page, size);
        if (bar != FINE) return bar;
        if (d >= pages[page].days) return found(BEYOND);
        tally.gather(pages[page], size, nothingKnown);
        if (tally.total == 0) return found(NOUGHT);
        int such = tally.howMany(d, v);
        tellFraction(such, tally.total);
        return such;
    }

    public int left(int page, int size) {
        int bar = barUnknown(page, size);
        if (bar != FINE) return bar;
        tally.gather(pages[page], size, known);
        told = tally.first;
        return tally.total;
    }

    // ---- 5 changes, joined ones, false lines

    public int changed(int rule, int other, int page, int r) {
        int bar = barChange(rule, other, page, r);
        if (bar != FINE) return bar;
        int turns = turningDays(rules[rule], rules[other], pages[page], rows[r]);
        told = firstOf(turns);
        return Integer.bitCount(turns);
    }

    public int when(int rule, int other, int page, int r) {
        int bar = barChange(rule, other, page, r);
        if (bar != FINE) return bar;
        return turningDays(rules[rule], rules[other], pages[page], rows[r]);
    }

    public int joined(int rule, int page, int other, int otherPage) {
        if (!within(rule, RULES) || !within(page, PAGES)) return BAD;
        if (!within(other, RULES) || !within(otherPage, PAGES)) return BAD;
        if (rules[rule].isMissing() || pages[page].isMissing()) return found(NOTHING);
        if (rules[other].isMissing() || pages[otherPage].isMissing()) return found(NOTHING);
        pages[page].unfold(rules[rule], 0, someDays);
        pages[otherPage].unfold(rules[other], 0, otherDays);
        told = Math.min(pages[page].days, pages[otherPage].days);
        return unlikeDays(told);
    }

    public int follows(int rule, int page, int i) {
        int bar = barChronicle(rule, page);
        if (bar != FINE) return bar;
        int day = pages[page].dayOfLine(i);
        if (!within(day, MOST_DAYS)) return found(BEYOND);
        pages[page].unfold(rules[rule], 0, someDays);
        pages[page].unfold(rules[rule], 1 << day, otherDays);
        int otherwise = unlikeDays(pages[page].days);
        told = lastOf(otherwise);
        return Integer.bitCount(otherwise);
    }

    public int know(int d, int v) {
        if (!within(d, MOST_DAYS) || !within(v, WEATHERS)) return BAD;
        int number = known.size;
        if (!within(number, MOST_KNOWN)) return FULL;
        known.day[number] = d;
        known.weather[number] = v;
        known.size = number + 1;
        return number;
    }

    public int forget(int n) {
        if (n < 0 || n > known.size) return BAD;
        int went = known.size - n;
        known.size = n;
        return went;
    }

    public int forbids(int rule, int page) {
        int bar = barChronicle(rule, page);
        if (bar != FINE) return bar;
        int days = pages[page].days;
        pages[page].unfold(rules[rule], 0, someDays);
        int first = known.firstNotSo(someDays, days);
        if (first == NONE) return NONE;
        told = known.howManyNotSo(someDays, days);
        return first;
    }

    public int suspects(int rule, int page) {
        int bar = barChronicle(rule, page);
        if (bar != FINE) return bar;
        told = leastLeftOut(rules[rule], pages[page]);
        return falseLines(rules[rule], pages[page]);
    }

    // ---- 6 what is told

    public int asked() {
        return told;
    }

    public long upper() {
        return upperNumber;
    }

    public long lower() {
        return lowerNumber;
    }

    public int count(int what) {
        switch (what) {
            case 0: return howManyRules();
            case 1: return howManyPages();
            case 2: return howManyClauses(false);
            case 3: return howManyClauses(true);
            case 4: return known.size;
            case 5: return reading.read;
            case 6: return howManyRows();
            case 7: return howManyTexts();
            default: return BAD;
        }
    }

    public int finding() {
        return latestFinding;
    }

    public int findings(int f) {
        if (f < 1 || f > FINDINGS) return BAD;
        return answeredFindings[f];
    }

    public long digest() {
        long h = 17;
        for (int what = 0; what < COUNTS; what++) h = folded(h, count(what));
        for (int k = 0; k < RULES; k++) h = rules[k].fold(h);
        for (int k = 0; k < PAGES; k++) h = pages[k].fold(h);
        h = known.fold(h);
        h = reading.fold(h);
        for (int r = 0; r < ROWS; r++) h = rows[r].fold(h);
        for (int t = 0; t < TEXTS; t++) h = texts[t].fold(h);
        return h;
    }

    // ---- what bars a call: a refusal, or FINE

    private static boolean within(int number, int size) {
        return number >= 0 && number < size;
    }

    private int found(int which) {
        latestFinding = which;
        answeredFindings[which]++;
        return FINDING;
    }

    private int barPlace(int r, int i) {
        if (!within(r, ROWS)) return BAD;
        if (rows[r].isMissing()) return found(NOTHING);
        return within(i, rows[r].size) ? FINE : found(BEYOND);
    }

    private int barClause(int k, int i) {
        if (!within(k, RULES)) return BAD;
        if (rules[k].isMissing()) return found(NOTHING);
        return within(i, rules[k].size) ? FINE : found(BEYOND);
    }

    private int barChronicle(int rule, int page) {
        if (!within(rule, RULES) || !within(page, PAGES)) return BAD;
        return rules[rule].isMissing() || pages[page].isMissing() ? found(NOTHING) : FINE;
    }

    private int barDays(Row row) {
        if (row.size < 1 || row.size > MOST_DAYS) return found(SIZE);
        return row.areWeathers() ? FINE : found(UNLIKE);
    }

    private int barWeighing(int r, int size) {
        if (!within(r, ROWS) || size < 1 || size > 2) return BAD;
        return rows[r].isMissing() ? found(NOTHING) : barDays(rows[r]);
    }

    private int barLeaf(int rule, int page, int i, int j, int m) {
        if (!within(i, MOST_DAYS) || !within(j, MOST_DAYS) || i > j) return BAD;
        if (j - i >= MOST_BURNT || m < 0 || m > MOST_BURNT_LINES) return BAD;
        int bar = barChronicle(rule, page);
        if (bar != FINE) return bar;
        return j < pages[page].days ? FINE : found(BEYOND);
    }

    private int barUnknown(int page, int size) {
        if (!within(page, PAGES) || size < 1 || size > 2) return BAD;
        return pages[page].isMissing() ? found(NOTHING) : FINE;
    }

    private int barChange(int rule, int other, int page, int r) {
        if (!within(rule, RULES) || !within(other, RULES)) return BAD;
        if (!within(page, PAGES) || !within(r, ROWS)) return BAD;
        if (rules[rule].isMissing() || rules[other].isMissing()) return found(NOTHING);
        if (pages[page].isMissing() || rows[r].isMissing()) return found(NOTHING);
        if (rows[r].size != pages[page].days) return found(SIZE);
        return rows[r].areWeathers() ? FINE : found(UNLIKE);
    }

    // ---- CLAUSES by their NUMBERS

    private static int kindOf(int number) {
        if (number < Y_NUMBER) return PLAIN;
        if (number < B_NUMBER) return YESTERDAY;
        if (number < S_NUMBER) return BACK;
        return number < A_NUMBER ? EACH : AFTER;
    }

    private static boolean isOfKind(int number, int kind) {
        int own = kindOf(number);
        if (kind == PLAIN) return own == PLAIN || own == EACH || own == AFTER;
        if (kind == BACK) return own == BACK || own == YESTERDAY;
        return own == kind;
    }

    /** What a CLAUSE tells that is of the KIND. */
    private static int markOf(int number, int kind) {
        switch (kind) {
            case PLAIN: return weatherOf(number);
            case EACH: return stepOf(number);
            case AFTER: return forerunnerOf(number);
            default: return daysBackOf(number);
        }
    }

    /** Each KIND of PLAIN CLAUSES begins at a NUMBER of its own, with WEATHER 0. */
    private static int weatherOf(int number) {
        if (number < Y_NUMBER) return number;
        return number < A_NUMBER ? (number - S_NUMBER) & 3 : (number - A_NUMBER) & 3;
    }

    /** y (4) is one day back, b k (3 and k) is k: one formula for both. */
    private static int daysBackOf(int number) {
        return number - 3;
    }

    private static int stepOf(int number) {
        return ((number - S_NUMBER) >> 2) + 2;
    }

    private static int forerunnerOf(int number) {
        return (number - A_NUMBER) >> 2;
    }

    /** What a CLAUSE tells of day d by the days ahead; NONE: it can't tell it. */
    private static int tells(int number, int[] ahead, int d) {
        if (number < Y_NUMBER) return number;
        if (number < S_NUMBER) {
            int back = daysBackOf(number);
            return back > 0 && d >= back ? ahead[d - back] : NONE;
        }
        if (number < A_NUMBER) {
            int step = stepOf(number);
            return step > 0 && d % step == 0 ? weatherOf(number) : NONE;
        }
        return d >= 1 && ahead[d - 1] == forerunnerOf(number) ? weatherOf(number) : NONE;
    }

    // ---- what is found by days

    /** The days (bits) among the first ones on which someDays and otherDays are not alike. */
    private int unlikeDays(int days) {
        int bits = 0;
        for (int d = 0; d < days && d < MOST_DAYS; d++) {
            if (someDays[d] != otherDays[d]) bits |= 1 << d;
        }
        return bits;
    }

    /** The first day of a set; NONE: it has none. */
    private static int firstOf(int bits) {
        for (int d = 0; d <= MOST_DAYS; d++) {
            if (((bits >> d) & 1) != 0) return d;
        }
        return NONE;
    }

    /** The last day of a set; NONE: it has none. */
    private static int lastOf(int bits) {
        for (int d = MOST_DAYS; d >= 0; d--) {
            if (((bits >> d) & 1) != 0) return d;
        }
        return NONE;
    }

    /** The days t (bits) so that one RULE ahead of t and the other from t on need just the PAGE's LINES. */
    private static int turningDays(Rule rule, Rule other, Page page, Row row) {
        int all = (1 << page.days) - 1;
        int byRule = page.fittingDays(rule, row.ints);
        int byOther = page.fittingDays(other, row.ints);
        int turns = 0;
        for (int t = 0; t <= page.days; t++) {
            int ahead = (1 << t) - 1;
            boolean fits = (byRule & ahead) == ahead && ((byOther | ahead) & all) == all;
            if (fits) turns |= 1 << t;
        }
        return turns;
    }

    /** Whether all that is KNOWN is so, if the LINES on some days (bits) are left out. */
    private boolean isSoWithout(Rule rule, Page page, int without) {
        page.unfold(rule, without, someDays);
        return known.firstNotSo(someDays, page.days) == NONE;
    }

    /** The LINES (bits) each of which, left out alone, makes all that is KNOWN so. */
    private int falseLines(Rule rule, Page page) {
        int bits = 0;
        int number = 0;
        for (int d = 0; d < page.days; d++) {
            if (page.hasLine(d)) {
                if (isSoWithout(rule, page, 1 << d)) bits |= 1 << number;
                number++;
            }
        }
        return bits;
    }

    /**
     * The least number of LINES that must be left out so that all that is KNOWN is so. Three places
     * are gone through, each a day that has a LINE, or 0 for none: so fewer than three come, too.
     */
    private int leastLeftOut(Rule rule, Page page) {
        int least = MOST_LEFT_OUT + 1;
        int end = page.days;
        for (int a = 0; a <= end; a++) {
            for (int b = a; b <= end && isPlace(page, a); b++) {
                for (int c = b; c <= end && isPlace(page, b); c++) {
                    int without = (1 << a | 1 << b | 1 << c) >> 1;
                    boolean fewer = isPlace(page, c) && Integer.bitCount(without) < least;
                    if (fewer && isSoWithout(rule, page, without)) least = Integer.bitCount(without);
                }
            }
        }
        return least > MOST_LEFT_OUT ? NONE : least;
    }

    private static boolean isPlace(Page page, int place) {
        return place == 0 || page.hasLine(place - 1);
    }

    // ---- what is told

    private void tellFraction(int part, int whole) {
        int divisor = greatestDivisor(part, whole);
        if (divisor <= 0) return;
        upperNumber = part / divisor;
        lowerNumber = whole / divisor;
    }

    /** Euclid's; forty steps are more than two numbers of RULES can need. */
    private static int greatestDivisor(int a, int b) {
        int larger = a;
        int smaller = b;
        for (int step = 0; step < 40 && smaller != 0; step++) {
            int rest = larger % smaller;
            larger = smaller;
            smaller = rest;
        }
        return larger;
    }

    private int howManyRules() {
        int there = 0;
        for (int k = 0; k < RULES; k++) {
            if (!rules[k].isMissing()) there++;
        }
        return there;
    }

    private int howManyPages() {
        int there = 0;
        for (int k = 0; k < PAGES; k++) {
            if (!pages[k].isMissing()) there++;
        }
        return there;
    }

    private int howManyClauses(boolean plainAlone) {
        int there = 0;
        for (int k = 0; k < RULES; k++) {
            for (int i = 0; i < rules[k].size; i++) {
                if (!plainAlone || isOfKind(rules[k].numbers[i], PLAIN)) there++;
            }
        }
        return there;
    }

    private int howManyRows() {
        int there = 0;
        for (int r = 0; r < ROWS; r++) {
            if (!rows[r].isMissing()) there++;
        }
        return there;
    }

    private int howManyTexts() {
        int there = 0;
        for (int t = 0; t < TEXTS; t++) {
            if (!texts[t].isMissing()) there++;
        }
        return there;
    }

    private static long folded(long h, long v) {
        return 31 * h + v;
    }

    /** A row of ints; a size below 0 tells that it is missing. */
    private static final class Row {
        int size;
        final int[] ints;

        Row() {
            size = -1;
            ints = new int[MOST_INTS];
        }

        boolean isMissing() {
            return size < 0;
        }

        void begin(int n) {
            size = n;
            for (int i = 0; i < n && i < MOST_INTS; i++) ints[i] = 0;
        }

        /** Whether n places are there from one on; none may be wanted behind the last, too. */
        boolean hasSpan(int from, int n) {
            return from >= 0 && n <= size && from <= size - n;
        }

        long sum() {
            long sum = 0;
            for (int i = 0; i < size; i++) sum += ints[i];
            return sum;
        }

        boolean areWeathers() {
            for (int i = 0; i < size; i++) {
                if (!within(ints[i], WEATHERS)) return false;
            }
            return true;
        }

        long fold(long before) {
            long h = folded(before, size);
            for (int i = 0; i < size; i++) h = folded(h, ints[i]);
            return h;
        }
    }

    /** A row of bytes; a size below 0 tells that it is missing. */
    private static final class Text {
        int size;
        final byte[] bytes;

        Text() {
            size = -1;
            bytes = new byte[MOST_BYTES];
        }

        boolean isMissing() {
            return size < 0;
        }

        void begin(int n) {
            size = n;
            for (int i = 0; i < n && i < MOST_BYTES; i++) bytes[i] = ' ';
        }

        long fold(long before) {
            long h = folded(before, size);
            for (int i = 0; i < size; i++) h = folded(h, bytes[i]);
            return h;
        }
    }

    /** The NUMBERS of a RULE's CLAUSES; a size below 0 tells that it is missing. */
    private static final class Rule {
        int size;
        final int[] numbers;

        Rule() {
            size = -1;
            numbers = new int[MOST_CLAUSES];
        }

        boolean isMissing() {
            return size < 0;
        }

        void become(Rule other) {
            size = other.size;
            for (int i = 0; i < MOST_CLAUSES; i++) numbers[i] = other.numbers[i];
        }

        void becomeNumber(int number) {
            if (number < NUMBERS) {
                size = 1;
                numbers[0] = number;
            } else {
                size = 2;
                numbers[0] = number / NUMBERS - 1;
                numbers[1] = number % NUMBERS;
            }
        }

        /** The first CLAUSE that can tell day d; NONE: none can. */
        int teller(int[] ahead, int d) {
            for (int i = 0; i < size; i++) {
                if (tells(numbers[i], ahead, d) != NONE) return i;
            }
            return NONE;
        }

        int expected(int[] ahead, int d) {
            for (int i = 0; i < size; i++) {
                int weather = tells(numbers[i], ahead, d);
                if (weather != NONE) return weather;
            }
            return 0;
        }

        long fold(long before) {
            if (size < 0) return folded(before, -1);
            long h = before;
            for (int i = 0; i < size; i++) h = folded(h, numbers[i]);
            return h;
        }
    }

    /** For each day the WEATHER of its LINE, or NONE; no days tell that the PAGE is missing. */
    private static final class Page {
        int days;
        final int[] lines;

        Page() {
            days = 0;
            lines = new int[MOST_DAYS];
        }

        boolean isMissing() {
            return days <= 0;
        }

        void begin(int n) {
            days = n;
            for (int d = 0; d < MOST_DAYS; d++) lines[d] = NONE;
        }

        void become(Page other) {
            days = other.days;
            for (int d = 0; d < MOST_DAYS; d++) lines[d] = other.lines[d];
        }

        void record(Rule rule, Row row) {
            begin(row.size);
            for (int d = 0; d < days; d++) {
                if (rule.expected(row.ints, d) != row.ints[d]) lines[d] = row.ints[d];
            }
        }

        boolean hasLine(int d) {
            return d >= 0 && d < days && lines[d] != NONE;
        }

        int howManyLines() {
            int there = 0;
            for (int d = 0; d < days; d++) {
                if (hasLine(d)) there++;
            }
            return there;
        }

        /** The day of LINE i; NONE: there is no such LINE. */
        int dayOfLine(int i) {
            int number = 0;
            for (int d = 0; d < days; d++) {
                if (hasLine(d)) {
                    if (number == i) return d;
                    number++;
                }
            }
            return NONE;
        }

        /** All DAYS by a RULE, but for the LINES on some days (bits). */
        void unfold(Rule rule, int without, int[] into) {
            for (int d = 0; d < days; d++) {
                boolean lined = hasLine(d) && ((without >> d) & 1) == 0;
                into[d] = lined ? lines[d] : rule.expected(into, d);
            }
        }

        int idleLines(Rule rule, int[] all) {
            int bits = 0;
            int number = 0;
            for (int d = 0; d < days; d++) {
                if (hasLine(d)) {
                    if (rule.expected(all, d) == lines[d]) bits |= 1 << number;
                    number++;
                }
            }
            return bits;
        }

        /** Unfolds the DAYS by a RULE as far as no LINE is IDLE: whether none is. */
        boolean isPossible(Rule rule, int[] into) {
            for (int d = 0; d < days; d++) {
                int expected = rule.expected(into, d);
                if (lines[d] == expected) return false;
                into[d] = hasLine(d) ? lines[d] : expected;
            }
            return true;
        }

        /** The days (bits) that by a RULE need a LINE just if there is one, and just that one. */
        int fittingDays(Rule rule, int[] all) {
            int bits = 0;
            for (int d = 0; d < days; d++) {
                int needed = rule.expected(all, d) == all[d] ? NONE : all[d];
                if (needed == lines[d]) bits |= 1 << d;
            }
            return bits;
        }

        long fold(long before) {
            if (days <= 0) return folded(before, -1);
            long h = folded(before, days);
            for (int d = 0; d < days; d++) {
                if (hasLine(d)) h = folded(folded(h, d), lines[d]);
            }
            return h;
        }
    }

    /** All days are unfolded when it begins, so that the RULE and the PAGE may change meanwhile. */
    private static final class Reading {
        int days;
        int read;
        int lined;
        final int[] weathers;

        Reading() {
            days = 0;
            read = 0;
            lined = 0;
            weathers = new int[MOST_DAYS];
        }

        boolean isMissing() {
            return days <= 0;
        }

        void begin(Rule rule, Page page) {
            days = page.days;
            read = 0;
            lined = 0;
            page.unfold(rule, 0, weathers);
            for (int d = 0; d < days; d++) {
                if (page.hasLine(d)) lined |= 1 << d;
            }
        }

        void become(Reading other) {
            days = other.days;
            read = other.read;
            lined = other.lined;
            for (int d = 0; d < MOST_DAYS; d++) weathers[d] = other.weathers[d];
        }

        long fold(long before) {
            if (days <= 0) return folded(before, -1);
            long h = before;
            for (int d = 0; d < read; d++) h = folded(h, weathers[d]);
            return h;
        }
    }

    /** Things that someone told; they may gainsay one another. */
    private static final class Known {
        int size;
        final int[] day;
        final int[] weather;

        Known() {
            size = 0;
            day = new int[MOST_KNOWN];
            weather = new int[MOST_KNOWN];
        }

        boolean isNotSo(int number, int[] all, int days) {
            int d = day[number];
            return d < days && all[d] != weather[number];
        }

        int firstNotSo(int[] all, int days) {
            for (int i = 0; i < size; i++) {
                if (isNotSo(i, all, days)) return i;
            }
            return NONE;
        }

        int howManyNotSo(int[] all, int days) {
            int there = 0;
            for (int i = 0; i < size; i++) {
                if (isNotSo(i, all, days)) there++;
            }
            return there;
        }

        long fold(long before) {
            long h = before;
            for (int i = 0; i < size; i++) h = folded(folded(h, day[i]), weather[i]);
            return h;
        }
    }

    /**
     * Reads TEXTS into a RULE and a PAGE of its own. The first thing that can't go on stops it,
     * and its place is then the FAULT: at the TEXT's end that is the size.
     */
    private static final class Parser {
        final Rule rule;
        final Page page;
        private Text text;
        private int place;
        private boolean stopped;

        Parser() {
            rule = new Rule();
            page = new Page();
            text = null;
            place = 0;
            stopped = false;
        }

        int ruleFault(Text read) {
            begin(read);
            rule.size = 0;
            for (int i = 0; i < MOST_CLAUSES; i++) {
                if (isAtEnd()) return NONE;
                int number = nextClause();
                if (stopped) return place;
                rule.numbers[i] = number;
                rule.size = i + 1;
            }
            return isAtEnd() ? NONE : place;
        }

        int pageFault(Text read) {
            begin(read);
            skipBlanks();
            sign('n');
            int days = number(1, MOST_DAYS);
            if (stopped) return place;
            page.begin(days);
            int next = 0;
            // every LINE is later than the one ahead: one more than there are days can't go on
            for (int i = 0; i <= MOST_DAYS; i++) {
                if (isAtEnd()) return NONE;
                sign('d');
                int day = number(next, days - 1);
                sign(':');
                int weather = figure(0, WEATHERS - 1);
                if (stopped) return place;
                page.lines[day] = weather;
                next = day + 1;
            }
            return place;
        }

        private void begin(Text read) {
            text = read;
            place = 0;
            stopped = false;
        }

        private int signHere() {
            return text != null && place >= 0 && place < text.size ? text.bytes[place] : NONE;
        }

        private void skipBlanks() {
            for (int i = 0; i < MOST_BYTES && signHere() == ' '; i++) place++;
        }

        private boolean isAtEnd() {
            skipBlanks();
            return text == null || place >= text.size;
        }

        private int nextClause() {
            int letter = signHere();
            if (letter != 'c' && letter != 'y' && letter != 'b' && letter != 's' && letter != 'a') {
                stopped = true;
                return NONE;
            }
            place++;
            switch (letter) {
                case 'c': return figure(0, 3);
                case 'y': return Y_NUMBER;
                case 'b': return B_NUMBER - 2 + figure(2, 7);
                case 's': return S_NUMBER + pair(2, 9);
                default: return A_NUMBER + pair(0, 3);
            }
        }

        /** A figure, : and a WEATHER, numbered from the least figure on. */
        private int pair(int least, int most) {
            int first = figure(least, most);
            sign(':');
            return 4 * (first - least) + figure(0, WEATHERS - 1);
        }

        private void sign(int wanted) {
            if (stopped) return;
            if (signHere() == wanted) place++;
            else stopped = true;
        }

        private boolean isFigureHere() {
            return signHere() >= '0' && signHere() <= '9';
        }

        /** A figure of least .. most; if there is none such, its place is the FAULT. */
        private int figure(int least, int most) {
            if (stopped) return least;
            int value = signHere() - '0';
            if (!isFigureHere() || value < least || value > most) {
                stopped = true;
                return least;
            }
            place++;
            return value;
        }

        /** One or two figures; if they are not least .. most, the place behind them is the FAULT. */
        private int number(int least, int most) {
            int value = figure(0, 9);
            if (!stopped && isFigureHere()) value = 10 * value + figure(0, 9);
            if (!stopped && (value < least || value > most)) stopped = true;
            return value;
        }
    }

    /** All RULES of a SIZE that make a PAGE POSSIBLE: how many, and how many tell what of a day. */
    private static final class Tally {
        int total;
        int first;
        private final int[] counts;
        private final int[] all;
        private final Rule tried;

        Tally() {
            total = 0;
            first = NONE;
            counts = new int[MOST_DAYS * WEATHERS];
            all = new int[MOST_DAYS];
            tried = new Rule();
        }

        void gather(Page page, int size, Known by) {
            total = 0;
            first = NONE;
            for (int i = 0; i < MOST_DAYS * WEATHERS; i++) counts[i] = 0;
            int end = size == 1 ? NUMBERS : RULES_OF_TWO;
            for (int number = 0; number < end; number++) {
                tried.becomeNumber(number);
                if (page.isPossible(tried, all) && by.firstNotSo(all, page.days) == NONE) {
                    if (total == 0) first = number;
                    total++;
                    for (int d = 0; d < page.days; d++) counts[WEATHERS * d + all[d]]++;
                }
            }
        }

        int howMany(int d, int weather) {
            return counts[WEATHERS * d + weather];
        }

        /** How many RULES are left at most, if one asks about a day. */
        int mostAlike(int d) {
            int most = 0;
            for (int v = 0; v < WEATHERS; v++) most = Math.max(most, howMany(d, v));
            return most;
        }

        int agreedDays(int days) {
            int bits = 0;
            for (int d = 0; d < days; d++) {
                if (mostAlike(d) == total) bits |= 1 << d;
            }
            return bits;
        }

        int partingDay(int days) {
            int best = 0;
            for (int d = 1; d < days; d++) {
                if (mostAlike(d) < mostAlike(best)) best = d;
            }
            return best;
        }
    }

    /** How few LINES days need by the RULES of a SIZE, and how many RULES need so few. */
    private static final class Scale {
        int fewestLines;
        int first;
        int alike;
        private final Rule tried;

        Scale() {
            fewestLines = 0;
            first = 0;
            alike = 0;
            tried = new Rule();
        }

        void weigh(Row row, int size) {
            fewestLines = MOST_DAYS + 1;
            int end = size == 1 ? NUMBERS : RULES_OF_TWO;
            for (int number = 0; number < end; number++) {
                tried.becomeNumber(number);
                int needed = linesNeeded(row);
                if (needed < fewestLines) {
                    fewestLines = needed;
                    first = number;
                    alike = 1;
                } else if (needed == fewestLines) {
                    alike++;
                }
            }
        }

        /** No further than to more than the fewest: such a RULE does not count. */
        private int linesNeeded(Row row) {
            int needed = 0;
            for (int d = 0; d < row.size && needed <= fewestLines; d++) {
                if (tried.expected(row.ints, d) != row.ints[d]) needed++;
            }
            return needed;
        }
    }

    /** The WORLDS that a burnt LEAF leaves, and which WEATHERS (bits) each day has in them. */
    private static final class Leaf {
        int worldsLeft;
        final int[] seen;
        private final int[] all;

        Leaf() {
            worldsLeft = 0;
            seen = new int[MOST_DAYS];
            all = new int[MOST_DAYS];
        }

        /**
         * Each set of burnt days that had LINES, each with one of three other WEATHERS: no two
         * of these are the same WORLD, as each LINE is of another WEATHER than was EXPECTED.
         */
        void burn(Rule rule, Page page, int from, int to, int most) {
            worldsLeft = 0;
            for (int d = 0; d < MOST_DAYS; d++) seen[d] = 0;
            int sets = 1 << (to - from + 1);
            int burnt = (sets - 1) << from;
            for (int set = 0; set < sets; set++) {
                int held = Integer.bitCount(set);
                int ways = held > most ? 0 : power(held);
                for (int way = 0; way < ways; way++) {
                    if (isWorld(rule, page, burnt, set << from, way)) addWorld(page.days);
                }
            }
        }

        int sureDays(int days) {
            int bits = 0;
            for (int d = 0; d < days; d++) {
                if (Integer.bitCount(seen[d]) == 1) bits |= 1 << d;
            }
            return bits;
        }

        private static int power(int held) {
            int ways = 1;
            for (int i = 0; i < held; i++) ways *= WEATHERS - 1;
            return ways;
        }

        /** Unfolds the days; the figures of way, by three, tell the WEATHERS of the LINES on the LEAF. */
        private boolean isWorld(Rule rule, Page page, int burnt, int held, int way) {
            int rest = way;
            for (int d = 0; d < page.days; d++) {
                int expected = rule.expected(all, d);
                all[d] = expected;
                if (((held >> d) & 1) != 0) {
                    all[d] = (expected + 1 + rest % (WEATHERS - 1)) % WEATHERS;
                    rest /= WEATHERS - 1;
                } else if (((burnt >> d) & 1) == 0 && page.hasLine(d)) {
                    if (page.lines[d] == expected) return false;
                    all[d] = page.lines[d];
                }
            }
            return true;
        }

        private void addWorld(int days) {
            worldsLeft++;
            for (int d = 0; d < days; d++) seen[d] |= 1 << all[d];
        }
    }
}
