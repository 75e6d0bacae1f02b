import java.util.ArrayList;
import java.util.List;

/**
 * "Refused is, the first of these that fits, in this order": of each call every refusal that its
 * arguments can bring, alone and together with every other one, and what all tell behind it.
 */
public final class EdgesOrderTest {
    private static final int BAD = Witness.BAD, STATE = Witness.STATE, FULL = Witness.FULL;
    private static final int NOTHING = Witness.NOTHING, BEYOND = Witness.BEYOND, UNLIKE = Witness.UNLIKE;
    private static final int NOUGHT = Witness.NOUGHT, SIZE = Witness.SIZE;
    private static final int LOW = Witness.LOW, HIGH = Witness.HIGH;
    private static final int[] ROWS = {-1, 6, LOW, HIGH}, FOURS = {-1, 4, LOW, HIGH}, THREES = {-1, 3, LOW, HIGH};
    private static final int[] SIZES = {0, 3, LOW, HIGH}, DAYS = {-1, 24, LOW, HIGH}, WEATHERS = {-1, 4, LOW, HIGH};
    private static final int[] BELOW = {-1, LOW}, MISSING = {3};

    public static void main(String[] args) {
        rowsAndTexts();
        rulesAndPages();
        daysAndReadings();
        leaves();
        unknown();
        late();
        fullAndState();
        Due.end();
    }

    /**
     * Rows: 0 six days, 1 six days with no weather among them, 2 of 25 days, 3 empty, 4 of 25 with no weather
     * among them, 5 missing. Texts: 0 a rule, 1 a page, 2 missing, 3 of neither. Rules: 3 is missing. Pages: 0 of
     * six days, 1 of one, 2 possible by no rule of one clause, 3 missing. No reading; one thing is known.
     */
    private static Witness world(String part) {
        Witness w = new Witness(part);
        w.rule(2, "").page(1, "n1").page(2, "n5d0:0d1:0d2:2d3:1d4:3").page(0, "n6 d1:2 d4:3").rule(0, "y").text(3, "x");
        w.numbered(1, 1);
        w.row(1, 0, 2, 2, 2, 3, 4).row(2, new int[25]).row(3);
        int[] neither = new int[25];
        neither[24] = -1;
        w.row(4, neither).row(0, 0, 2, 2, 2, 3, 3).know(23, 1);
        w.tells(1, 3, "at", 0, 5);
        return w;
    }

    /** One argument of a call that brings a refusal. */
    private static final class Fault {
        final int refusal, finding, rank, place, value;

        Fault(int refusal, int finding, int rank, int place, int value) {
            this.refusal = refusal;
            this.finding = finding;
            this.rank = rank;
            this.place = place;
            this.value = value;
        }
    }

    /** A call with sound arguments, and all that can be wrong with each of them, in the document's order. */
    private static final class Call {
        private final String part, name;
        private final int[] sound;
        private final List<Fault> faults = new ArrayList<>();
        private int rank = 0, latest = 0;

        Call(String part, String name, int... sound) {
            this.part = part + " " + name + ": each refusal alone, and where two could be told";
            this.name = name;
            this.sound = sound;
        }

        Call refuses(int refusal, int place, int... values) {
            return add(refusal, 0, place, values);
        }

        Call bad(int place, int... values) {
            return add(BAD, 0, place, values);
        }

        Call finds(int finding, int place, int... values) {
            return add(Witness.FINDING, finding, place, values);
        }

        private Call add(int refusal, int finding, int place, int[] values) {
            int what = 10 * refusal - finding;
            if (what != latest) rank++;
            latest = what;
            for (int v : values) faults.add(new Fault(refusal, finding, rank, place, v));
            return this;
        }

        private Witness wrong(Witness used, Fault one, Fault other) {
            Witness w = used == null || used.calls() > 495 ? world(part) : used;
            Fault first = one.rank <= other.rank ? one : other;
            int[] given = Witness.with(Witness.with(sound, one.place, one.value), other.place, other.value);
            if (first.finding == 0) w.refuses(first.refusal, name, given);
            else w.finds(first.finding, name, given);
            return w;
        }

        /** @param want what the call answers with sound arguments */
        void check(int want) {
            world(part).quick(want, name, sound);
            Witness w = null;
            for (int i = 0; i < faults.size(); i++) {
                w = wrong(w, faults.get(i), faults.get(i));
                for (int j = i + 1; j < faults.size(); j++) {
                    if (faults.get(i).place != faults.get(j).place) w = wrong(w, faults.get(i), faults.get(j));
                }
            }
        }
    }

    private static int[] these(int... values) {
        return values;
    }

    private static void rowsAndTexts() {
        new Call("2", "row", 0, 0).bad(0, ROWS).bad(1, 61, HIGH).finds(SIZE, 1, BELOW).check(0);
        new Call("3", "lay", 0, 0, 0).bad(0, ROWS).finds(NOTHING, 0, 5).finds(BEYOND, 1, -1, 60, LOW, HIGH)
                .finds(BEYOND, 0, 3).check(1);
        new Call("4", "at", 0, 0).bad(0, ROWS).finds(NOTHING, 0, 5).finds(BEYOND, 1, -1, 60, LOW, HIGH)
                .finds(BEYOND, 0, 3).check(1);
        new Call("5", "tear", 0).bad(0, ROWS).finds(NOTHING, 0, 5).check(1);
        new Call("6", "copy", 0, 0, 1, 0, 1).bad(0, ROWS).bad(2, ROWS).finds(SIZE, 4, BELOW)
                .finds(NOTHING, 0, 5).finds(NOTHING, 2, 5).finds(BEYOND, 0, 3).finds(BEYOND, 2, 3)
                .finds(BEYOND, 1, -1, 60, LOW, HIGH).finds(BEYOND, 3, -1, 60, LOW, HIGH)
                .finds(BEYOND, 4, 61, HIGH).check(1);
        new Call("7", "mean", 0).bad(0, ROWS).finds(NOTHING, 0, 5).finds(NOUGHT, 0, 3).check(1);
        new Call("8", "text", 0, 0).bad(0, FOURS).bad(1, 121, HIGH).finds(SIZE, 1, BELOW).check(0);
        new Call("9", "put", 0, 0, 0).bad(0, FOURS).finds(NOTHING, 0, 2).finds(BEYOND, 1, -1, 120, LOW, HIGH)
                .check(1121);
    }

    private static void rulesAndPages() {
        new Call("10", "fault", 0, 0).bad(0, FOURS).finds(NOTHING, 0, 2).check(Witness.NONE);
        new Call("10", "fault", 1, 1).bad(0, FOURS).finds(NOTHING, 0, 2).check(Witness.NONE);
        new Call("11", "rule", 0, 0).bad(0, FOURS).bad(1, FOURS).finds(NOTHING, 1, 2)
                .refuses(STATE, 1, 3).refuses(STATE, 1, 1).check(1);
        new Call("12", "numbered", 0, 0).bad(0, FOURS).bad(1, -1, 3540, LOW, HIGH).check(1);
        new Call("13", "page", 0, 1).bad(0, FOURS).bad(1, FOURS).finds(NOTHING, 1, 2)
                .refuses(STATE, 1, 3).refuses(STATE, 1, 0).check(2);
        new Call("14", "clause", 0, 0).bad(0, FOURS).finds(NOTHING, 0, MISSING)
                .finds(BEYOND, 1, -1, 4, LOW, HIGH).finds(BEYOND, 0, 2).check(4);
        new Call("15", "mark", 0, 0, 2).bad(0, FOURS).bad(2, 0, 6, -1, LOW, HIGH).finds(NOTHING, 0, MISSING)
                .finds(BEYOND, 1, -1, 4, LOW, HIGH).finds(BEYOND, 0, 2).finds(UNLIKE, 2, 1, 3, 4).check(1);
        new Call("16", "line", 0, 0).bad(0, FOURS).finds(NOTHING, 0, MISSING)
                .finds(BEYOND, 1, -1, 24, LOW, HIGH).finds(BEYOND, 0, 1).check(1);
        new Call("17", "expects", 0, 0).bad(0, FOURS).bad(1, ROWS).finds(NOTHING, 0, MISSING).finds(NOTHING, 1, 5)
                .finds(SIZE, 1, 2, 4).finds(UNLIKE, 1, 1).check(3);
    }

    private static void daysAndReadings() {
        new Call("18", "days", 0, 0, 0).bad(0, FOURS).bad(1, FOURS).bad(2, ROWS).finds(NOTHING, 0, MISSING)
                .finds(NOTHING, 1, MISSING).check(6);
        new Call("19", "write", 0, 0, 0).bad(0, FOURS).bad(1, ROWS).bad(2, FOURS).finds(NOTHING, 0, MISSING)
                .finds(NOTHING, 1, 5).finds(SIZE, 1, 2, 3, 4).finds(UNLIKE, 1, 1).check(2);
        String[] weighing = {"fewest", "many"};
        for (int i = 0; i < 2; i++) {
            new Call(i == 0 ? "20" : "21", weighing[i], 0, 1).bad(0, ROWS).bad(1, SIZES).finds(NOTHING, 0, 5)
                    .finds(SIZE, 0, 2, 3, 4).finds(UNLIKE, 0, 1).check(i == 0 ? 2 : 1);
        }
        new Call("22", "open", 0, 0).bad(0, FOURS).bad(1, FOURS).finds(NOTHING, 0, MISSING)
                .finds(NOTHING, 1, MISSING).check(6);
        new Call("24", "keep", 0).bad(0, THREES).refuses(STATE, 0, 0, 1, 2).check(STATE);
        new Call("25", "on", 0).bad(0, THREES).finds(NOTHING, 0, 0, 1, 2).check(Witness.FINDING);
    }

    /** Day 12 stands behind each j that is tried: no two wrong days make a leaf that is sound. */
    private static void leaves() {
        String[] names = {"worlds", "sure", "can"};
        int[] due = {5, 63 - 4 - 8, 7};
        for (int n = 0; n < 3; n++) {
            int[] sound = n == 2 ? these(0, 0, 2, 3, 1, 3) : these(0, 0, 2, 3, 1);
            Call call = new Call(String.valueOf(26 + n), names[n], sound).bad(0, FOURS).bad(1, FOURS)
                    .bad(2, -1, 12, LOW, HIGH).bad(3, 1, 10, 24, LOW, HIGH).bad(4, -1, 4, LOW, HIGH);
            if (n == 2) call.bad(5, DAYS);
            call.finds(NOTHING, 0, MISSING).finds(NOTHING, 1, MISSING).finds(BEYOND, 3, 6, 9).finds(BEYOND, 1, 1);
            if (n == 2) call.finds(BEYOND, 5, 6, 23);
            call.check(due[n]);
        }
        // days 1 and 2 of page 2 by rule 2: the lines of days 0 and 3 .. 4 are left, the one of day 0 is idle
        new Call("27", "sure", 2, 2, 1, 2, 0).bad(2, -1, 12).bad(4, -1, 4).finds(NOTHING, 0, MISSING)
                .finds(BEYOND, 3, 5, 8).finds(NOUGHT, 4, 0, 3).check(Witness.FINDING);
    }

    private static void unknown() {
        String[] names = {"rules", "agree", "ask", "likely", "left"};
        int[] due = {54, 18, 0, 31, 54};
        for (int n = 0; n < 5; n++) {
            boolean likely = n == 3;
            int[] sound = likely ? these(0, 1, 0, 0) : these(0, 1);
            Call call = new Call(String.valueOf(29 + n), names[n], sound).bad(0, FOURS).bad(1, SIZES);
            if (likely) call.bad(2, DAYS).bad(3, WEATHERS);
            call.finds(NOTHING, 0, MISSING);
            if (likely) call.finds(BEYOND, 2, 6, 23);
            if (n >= 1 && n <= 3) call.finds(NOUGHT, 0, 2);
            call.check(due[n]);
        }
    }

    private static void late() {
        String[] change = {"changed", "when"};
        for (int i = 0; i < 2; i++) {
            new Call(i == 0 ? "34" : "35", change[i], 0, 0, 0, 0).bad(0, FOURS).bad(1, FOURS).bad(2, FOURS)
                    .bad(3, ROWS).finds(NOTHING, 0, MISSING).finds(NOTHING, 1, MISSING).finds(NOTHING, 2, MISSING)
                    .finds(NOTHING, 3, 5).finds(SIZE, 3, 2, 3, 4).finds(SIZE, 2, 1, 2).finds(UNLIKE, 3, 1)
                    .check(i == 0 ? 7 : 127);
        }
        new Call("36", "joined", 0, 0, 0, 0).bad(0, FOURS).bad(1, FOURS).bad(2, FOURS).bad(3, FOURS)
                .finds(NOTHING, 0, MISSING).finds(NOTHING, 1, MISSING).finds(NOTHING, 2, MISSING)
                .finds(NOTHING, 3, MISSING).check(0);
        new Call("37", "follows", 0, 0, 0).bad(0, FOURS).bad(1, FOURS).finds(NOTHING, 0, MISSING)
                .finds(NOTHING, 1, MISSING).finds(BEYOND, 1, 1).finds(BEYOND, 2, -1, 24, LOW, HIGH).check(3);
        new Call("38", "know", 0, 0).bad(0, DAYS).bad(1, WEATHERS).check(1);
        new Call("39", "forget", 0).bad(0, -1, 2, LOW, HIGH).check(1);
        String[] lines = {"forbids", "suspects"};
        for (int i = 0; i < 2; i++) {
            new Call(i == 0 ? "40" : "41", lines[i], 0, 0).bad(0, FOURS).bad(1, FOURS).finds(NOTHING, 0, MISSING)
                    .finds(NOTHING, 1, MISSING).check(i == 0 ? Witness.NONE : 3);
        }
        new Call("45", "count", 4).bad(0, -1, 8, LOW, HIGH).check(1);
        new Call("47", "findings", 1).bad(0, 0, 6, LOW, HIGH).check(0);
    }

    private static void fullAndState() {
        Witness w = world("38 know: BAD goes ahead of FULL");
        for (int i = 1; i < 8; i++) w.know(0, 0);
        for (int d : DAYS) w.refuses(BAD, "know", d, 0);
        for (int v : WEATHERS) w.refuses(BAD, "know", 0, v);
        for (int d : DAYS) w.refuses(BAD, "know", d, 4);
        w.refuses(FULL, "know", 0, 0);
        w = world("23 read, 24 keep: STATE, then SPENT");
        w.refuses(STATE, "read");
        w.refuses(BAD, "keep", 3);
        w.refuses(STATE, "keep", 2);
        w.reading(0, 1, 0);
        w.refuses(Witness.SPENT, "read");
        w.refuses(BAD, "keep", 3);
        w.is(1, "keep", 2);
    }
}
