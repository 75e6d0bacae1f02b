/** What the document says of rules and pages, told once more by the signs of the clauses. */
final class Plain {
    private Plain() { }

    static int[] rule(int number) {
        return number < 59 ? Witness.these(number) : Witness.these(number / 59 - 1, number % 59);
    }

    static int expected(int[] rule, int[] days, int d) {
        for (int number : rule) {
            String clause = Witness.CLAUSES.get(number);
            int figure = clause.length() > 1 ? clause.charAt(1) - '0' : 1;
            int weather = clause.charAt(clause.length() - 1) - '0';
            switch (clause.charAt(0)) {
                case 'c': return weather;
                case 's': if (d % figure == 0) return weather; break;
                case 'a': if (d > 0 && days[d - 1] == figure) return weather; break;
                default: if (d >= figure) return days[d - figure];
            }
        }
        return 0;
    }

    static int linesNeeded(int[] rule, int[] days) {
        int needed = 0;
        for (int d = 0; d < days.length; d++) if (expected(rule, days, d) != days[d]) needed++;
        return needed;
    }

    /** All days by a rule and a page's picture: how many days, then day and weather of each line. */
    static int[] days(int[] rule, int[] page) {
        int[] days = new int[page[0]];
        for (int d = 0; d < days.length; d++) {
            days[d] = expected(rule, days, d);
            for (int i = 1; i < page.length; i += 2) if (page[i] == d) days[d] = page[i + 1];
        }
        return days;
    }

    static boolean isPossible(int[] rule, int[] page) {
        int[] days = days(rule, page);
        for (int i = 1; i < page.length; i += 2) {
            if (expected(rule, days, page[i]) == page[i + 1]) return false;
        }
        return true;
    }
}
