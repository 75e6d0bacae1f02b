import java.util.function.IntSupplier;

/** What the tests share: answers that are due, and short ways to lay rows and texts. */
final class Due {
    private static int wrong = 0;
    private static String part = "";

    private Due() { }

    static void part(String name) {
        part = name;
    }

    static void same(String call, long got, long want) {
        if (got != want) tell(call + " answered " + got + ", due is " + want);
    }

    static void tell(String what) {
        wrong++;
        System.out.println(part + ": " + what);
    }

    static void end() {
        System.out.println(wrong == 0 ? "all answers are as due" : wrong + " answers are not as due");
        if (wrong != 0) System.exit(1);
    }

    /** A call that is refused without a FINDING changes nothing at all. */
    static void refused(OtherwiseBook x, String call, IntSupplier made, int want) {
        unchangedBut(x, call, made, want, 0);
    }

    /** A call that is refused by a FINDING changes finding() and its findings() alone. */
    static void found(OtherwiseBook x, String call, IntSupplier made, int finding) {
        unchangedBut(x, call, made, OtherwiseBook.FINDING, finding);
    }

    private static void unchangedBut(OtherwiseBook x, String call, IntSupplier made, int want, int finding) {
        long[] before = state(x);
        int latest = x.finding();
        int[] often = often(x);
        same(call, made.getAsInt(), want);
        long[] after = state(x);
        String[] names = {"digest()", "asked()", "upper()", "lower()"};
        for (int i = 0; i < names.length; i++) same(names[i] + " behind " + call, after[i], before[i]);
        same("finding() behind " + call, x.finding(), finding == 0 ? latest : finding);
        for (int f = 1; f <= 5; f++) {
            same("findings(" + f + ") behind " + call, x.findings(f), often[f] + (f == finding ? 1 : 0));
        }
    }

    private static long[] state(OtherwiseBook x) {
        return new long[] {x.digest(), x.asked(), x.upper(), x.lower()};
    }

    private static int[] often(OtherwiseBook x) {
        int[] often = new int[6];
        for (int f = 1; f <= 5; f++) often[f] = x.findings(f);
        return often;
    }

    static void text(OtherwiseBook x, int t, String signs) {
        same("text(" + t + ", " + signs.length() + ")", x.text(t, signs.length()), signs.length());
        for (int i = 0; i < signs.length(); i++) {
            same("put(" + t + ", " + i + ", ..)", x.put(t, i, signs.charAt(i)), 1032);
        }
    }

    static void rule(OtherwiseBook x, int k, String signs, int clauses) {
        text(x, 0, signs);
        same("rule(" + k + ") of '" + signs + "'", x.rule(k, 0), clauses);
    }

    static void page(OtherwiseBook x, int k, String signs, int lines) {
        text(x, 1, signs);
        same("page(" + k + ") of '" + signs + "'", x.page(k, 1), lines);
    }

    static void row(OtherwiseBook x, int r, int... ints) {
        same("row(" + r + ", " + ints.length + ")", x.row(r, ints.length), ints.length);
        for (int i = 0; i < ints.length; i++) same("lay", x.lay(r, i, ints[i]), 1);
    }

    static void isRow(OtherwiseBook x, int r, int... ints) {
        for (int i = 0; i < ints.length; i++) {
            same("at(" + r + ", " + i + ")", x.at(r, i), 1);
            same("asked() behind at(" + r + ", " + i + ")", x.asked(), ints[i]);
        }
        same("at(" + r + ", " + ints.length + ")", x.at(r, ints.length), OtherwiseBook.FINDING);
    }

    static void isPage(OtherwiseBook x, int k, int... daysAndWeathers) {
        for (int i = 0; i < daysAndWeathers.length / 2; i++) {
            same("line(" + k + ", " + i + ")", x.line(k, i), daysAndWeathers[2 * i]);
            same("asked() behind line(" + k + ", " + i + ")", x.asked(), daysAndWeathers[2 * i + 1]);
        }
        int lines = daysAndWeathers.length / 2;
        same("line(" + k + ", " + lines + ")", x.line(k, lines), OtherwiseBook.FINDING);
    }

    static void asked(OtherwiseBook x, String call, long got, long want, int told) {
        same(call, got, want);
        same("asked() behind " + call, x.asked(), told);
    }
}
