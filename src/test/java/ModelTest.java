import java.util.ArrayList;
import java.util.Arrays;
import java.util.List;
import java.util.Random;
import java.util.regex.Matcher;
import java.util.regex.Pattern;

/**
 * Long runs of calls, most of them sensible, some not, against a model that is written in another
 * way (texts by regular expressions, worlds by trying all weathers, sets of lines by recursion).
 */
public final class ModelTest {
    private static final int BAD = -1, FULL = -2, FINDING = -3, STATE = -4, SPENT = -6, NONE = -9;
    private static final int NOTHING = 1, BEYOND = 2, UNLIKE = 3, NOUGHT = 4, SIZE = 5;
    /** How often an object is used, and how many calls a look at all that tells needs. */
    private static final int MOST_CALLS = 512, LOOK = 10;
    private static final List<String> CLAUSES = clauses();
    private static final List<List<String>> RULES = rulesOfTwo();
    private static final Pattern RULE = Pattern.compile("(?: *(?:c[0-3]|y|b[2-7]|s[2-9]:[0-3]|a[0-3]:[0-3])){0,4} *");
    private static final Pattern PAGE = Pattern.compile(" *n[0-9][0-9]?(?: *d[0-9][0-9]?:[0-3])* *");
    private static final Pattern NUMBER = Pattern.compile("([nd])([0-9][0-9]?)");

    private static List<String> clauses() {
        List<String> all = new ArrayList<>();
        for (int v = 0; v < 4; v++) all.add("c" + v);
        all.add("y");
        for (int k = 2; k <= 7; k++) all.add("b" + k);
        for (int k = 2; k <= 9; k++) for (int v = 0; v < 4; v++) all.add("s" + k + ":" + v);
        for (int u = 0; u < 4; u++) for (int v = 0; v < 4; v++) all.add("a" + u + ":" + v);
        return all;
    }

    private static List<List<String>> rulesOfTwo() {
        List<List<String>> all = new ArrayList<>();
        for (String one : clauses()) all.add(List.of(one));
        for (String one : clauses()) for (String two : clauses()) all.add(List.of(one, two));
        return all;
    }

    private static final class Lines {
        int days;
        List<int[]> lines = new ArrayList<>();

        int on(int day) {
            for (int[] line : lines) if (line[0] == day) return line[1];
            return NONE;
        }

        Lines without(int from, int to) {
            Lines rest = new Lines();
            rest.days = days;
            for (int[] line : lines) if (line[0] < from || line[0] > to) rest.lines.add(line);
            return rest;
        }
    }

    private static final class Refusal extends RuntimeException {
        final int answer;
        Refusal(int answer) {
            super(null, null, false, false);
            this.answer = answer;
        }
    }

    // ---- the model

    private final int[][] rows = new int[6][];
    private final byte[][] texts = new byte[4][];
    private final List<List<String>> rules = new ArrayList<>(Arrays.asList(null, null, null, null));
    private final Lines[] pages = new Lines[4];
    /** days, then whether they have lines; and how many are read */
    private int[][] reading = null;
    private int read = 0;
    private final int[][][] kept = new int[3][][];
    private final int[] keptRead = new int[3];
    private final List<int[]> known = new ArrayList<>();
    private final int[] findings = new int[6];
    private int finding = 0, asked = 0;
    private long upper = 0, lower = 1;

    private void bad(boolean is) {
        if (is) throw new Refusal(BAD);
    }

    private void when(boolean is, int refusal) {
        if (is) throw new Refusal(refusal);
    }

    private void find(boolean is, int which) {
        if (!is) return;
        finding = which;
        findings[which]++;
        throw new Refusal(FINDING);
    }

    private static boolean no(int x, int end) {
        return x < 0 || x >= end;
    }

    private static int[] parts(String clause) {
        int[] found = {0, 0};
        if (clause.length() > 1) found[0] = clause.charAt(1) - '0';
        if (clause.length() > 3) found[1] = clause.charAt(3) - '0';
        return found;
    }

    private static int tell(String clause, int[] days, int d) {
        int[] p = parts(clause);
        switch (clause.charAt(0)) {
            case 'c': return p[0];
            case 'y': return d > 0 ? days[d - 1] : NONE;
            case 'b': return d - p[0] >= 0 ? days[d - p[0]] : NONE;
            case 's': return d / p[0] * p[0] == d ? p[1] : NONE;
            default: return d > 0 && days[d - 1] == p[0] ? p[1] : NONE;
        }
    }

    private static int teller(List<String> rule, int[] days, int d) {
        for (int i = 0; i < rule.size(); i++) if (tell(rule.get(i), days, d) != NONE) return i;
        return NONE;
    }

    private static int expected(List<String> rule, int[] days, int d) {
        int i = teller(rule, days, d);
        return i == NONE ? 0 : tell(rule.get(i), days, d);
    }

    private static int[] all(List<String> rule, Lines page) {
        int[] days = new int[page.days];
        for (int d = 0; d < days.length; d++) {
            days[d] = page.on(d) != NONE ? page.on(d) : expected(rule, days, d);
        }
        return days;
    }

    private static boolean[] idle(List<String> rule, Lines page) {
        int[] days = all(rule, page);
        boolean[] idle = new boolean[page.lines.size()];
        for (int i = 0; i < idle.length; i++) {
            int[] line = page.lines.get(i);
            idle[i] = expected(rule, days, line[0]) == line[1];
        }
        return idle;
    }

    private static Lines written(List<String> rule, int[] days) {
        Lines page = new Lines();
        page.days = days.length;
        for (int d = 0; d < days.length; d++) {
            if (expected(rule, days, d) != days[d]) page.lines.add(new int[] {d, days[d]});
        }
        return page;
    }

    private static String signs(byte[] text) {
        StringBuilder signs = new StringBuilder();
        for (byte b : text) signs.append((char) (b & 255));
        return signs.toString();
    }

    /** As far as a text may still become one that matches. */
    private static int faultBy(Pattern form, String signs) {
        if (form.matcher(signs).matches()) return NONE;
        int fault = 0;
        for (int n = 1; n <= signs.length(); n++) {
            Matcher m = form.matcher(signs.substring(0, n));
            if (!m.matches() && !m.hitEnd()) break;
            fault = n;
        }
        return fault;
    }

    private static int pageFault(String signs) {
        int form = faultBy(PAGE, signs);
        String sound = form == NONE ? signs : signs.substring(0, form);
        Matcher m = NUMBER.matcher(sound);
        int days = 0, last = -1;
        while (m.find()) {
            int value = Integer.parseInt(m.group(2));
            if (m.group(1).equals("n")) {
                days = value;
                if (value < 1 || value > 24) return m.end();
            } else {
                if (value >= days || value <= last) return m.end();
                last = value;
            }
        }
        return form;
    }

    private static Lines pageOf(String signs) {
        Lines page = new Lines();
        for (String item : signs.replace("d", " d").trim().split(" +")) {
            if (item.charAt(0) == 'n') page.days = Integer.parseInt(item.substring(1));
            else {
                String[] parts = item.substring(1).split(":");
                page.lines.add(new int[] {Integer.parseInt(parts[0]), Integer.parseInt(parts[1])});
            }
        }
        return page;
    }

    private static List<String> ruleOf(String signs) {
        List<String> rule = new ArrayList<>();
        Matcher m = Pattern.compile("c.|y|b.|s.:.|a.:.").matcher(signs);
        while (m.find()) rule.add(m.group());
        return rule;
    }

    private static boolean weathers(int[] row) {
        for (int v : row) if (no(v, 4)) return false;
        return true;
    }

    private List<String> rule(int k) {
        find(rules.get(k) == null, NOTHING);
        return rules.get(k);
    }

    private Lines page(int k) {
        find(pages[k] == null, NOTHING);
        return pages[k];
    }

    private int[] row(int r) {
        find(rows[r] == null, NOTHING);
        return rows[r];
    }

    private void days(int[] row) {
        find(row.length < 1 || row.length > 24, SIZE);
        find(!weathers(row), UNLIKE);
    }

    private static List<List<String>> ofSize(int size) {
        return RULES.subList(0, size == 1 ? 59 : 3540);
    }

    private List<int[]> burnt(int rule, int page, int i, int j, int m) {
        Lines rest = page(page).without(i, j);
        find(j >= rest.days, BEYOND);
        List<int[]> worlds = new ArrayList<>();
        int burnt = j - i + 1;
        for (long code = 0; code < 1L << 2 * burnt; code++) {
            int[] days = new int[rest.days];
            int needed = 0;
            boolean sound = true;
            for (int d = 0; d < days.length && sound; d++) {
                int expected = expected(rules.get(rule), days, d);
                if (d >= i && d <= j) {
                    days[d] = (int) (code >> 2 * (d - i)) & 3;
                    if (days[d] != expected) needed++;
                    sound = needed <= m;
                } else if (rest.on(d) != NONE) {
                    days[d] = rest.on(d);
                    sound = days[d] != expected;
                } else days[d] = expected;
            }
            if (sound) worlds.add(days);
        }
        return worlds;
    }

    private List<int[]> leaf(int rule, int page, int i, int j, int m) {
        bad(no(rule, 4) || no(page, 4) || no(i, 24) || no(j, 24) || i > j || j - i + 1 > 8 || no(m, 4));
        rule(rule);
        return burnt(rule, page, i, j, m);
    }

    private List<Integer> possible(Lines page, int size) {
        List<Integer> such = new ArrayList<>();
        List<List<String>> all = ofSize(size);
        for (int n = 0; n < all.size(); n++) {
            boolean sound = true;
            for (boolean idle : idle(all.get(n), page)) sound &= !idle;
            if (sound) such.add(n);
        }
        return such;
    }

    private int alikeAtMost(List<Integer> such, Lines page, int d) {
        int[] counts = new int[4];
        for (int n : such) counts[all(RULES.get(n), page)[d]]++;
        return Math.max(Math.max(counts[0], counts[1]), Math.max(counts[2], counts[3]));
    }

    private int notSo(int[] days) {
        int not = 0;
        for (int[] thing : known) if (thing[0] < days.length && days[thing[0]] != thing[1]) not++;
        return not;
    }

    private boolean soWithout(List<String> rule, Lines page, int from, int more) {
        if (more == 0) return notSo(all(rule, page)) == 0;
        for (int i = from; i < page.lines.size(); i++) {
            int[] line = page.lines.remove(i);
            boolean so = soWithout(rule, page, i, more - 1);
            page.lines.add(i, line);
            if (so) return true;
        }
        return false;
    }

    private int turns(int rule, int other, int page, int r) {
        bad(no(rule, 4) || no(other, 4) || no(page, 4) || no(r, 6));
        rule(rule);
        rule(other);
        Lines lines = page(page);
        int[] days = row(r);
        find(days.length != lines.days, SIZE);
        find(!weathers(days), UNLIKE);
        int bits = 0;
        for (int t = 0; t <= days.length; t++) {
            List<String> needed = new ArrayList<>();
            for (int d = 0; d < days.length; d++) {
                int expected = expected(rules.get(d < t ? rule : other), days, d);
                if (expected != days[d]) needed.add(d + ":" + days[d]);
            }
            List<String> there = new ArrayList<>();
            for (int[] line : lines.lines) there.add(line[0] + ":" + line[1]);
            if (needed.equals(there)) bits += 1 << t;
        }
        return bits;
    }

    private int countOf(int what) {
        int n = 0;
        for (List<String> rule : rules) {
            if (rule == null) continue;
            if (what == 0) n++;
            if (what == 2) n += rule.size();
            if (what == 3) for (String c : rule) if ("csa".indexOf(c.charAt(0)) >= 0) n++;
        }
        if (what == 1) for (Lines page : pages) if (page != null) n++;
        if (what == 4) n = known.size();
        if (what == 5) n = read;
        if (what == 6) for (int[] row : rows) if (row != null) n++;
        if (what == 7) for (byte[] text : texts) if (text != null) n++;
        return n;
    }

    private long digest() {
        List<Long> all = new ArrayList<>();
        for (int what = 0; what < 8; what++) all.add((long) countOf(what));
        for (List<String> rule : rules) {
            if (rule == null) all.add(-1L);
            else for (String clause : rule) all.add((long) CLAUSES.indexOf(clause));
        }
        for (Lines page : pages) {
            all.add(page == null ? -1L : page.days);
            if (page != null) for (int[] line : page.lines) for (int v : line) all.add((long) v);
        }
        for (int[] thing : known) for (int v : thing) all.add((long) v);
        if (reading == null) all.add(-1L);
        for (int d = 0; d < read; d++) all.add((long) reading[0][d]);
        for (int[] row : rows) {
            all.add(row == null ? -1L : row.length);
            if (row != null) for (int v : row) all.add((long) v);
        }
        for (byte[] text : texts) {
            all.add(text == null ? -1L : text.length);
            if (text != null) for (byte v : text) all.add((long) v);
        }
        long h = 17;
        for (long v : all) h = 31 * h + v;
        return h;
    }

    private long call(String name, int[] a) {
        try {
            switch (name) {
                case "row": case "lay": case "at": case "tear": case "copy": case "mean": return rowCall(name, a);
                case "text": case "put": case "fault": case "rule": case "numbered": case "page":
                case "clause": case "mark": case "line": case "expects": return textCall(name, a);
                case "days": case "write": case "fewest": case "many": case "open": case "read":
                case "keep": case "on": return daysCall(name, a);
                case "worlds": case "sure": case "can": return leafCall(name, a);
                case "rules": case "agree": case "ask": case "likely": case "left": return unknownCall(name, a);
                default: return lateCall(name, a);
            }
        } catch (Refusal refusal) {
            return refusal.answer;
        }
    }

    private int rowCall(String name, int[] a) {
        bad(no(a[0], 6));
        switch (name) {
            case "row":
                bad(a[1] > 60);
                find(a[1] < 0, SIZE);
                rows[a[0]] = new int[a[1]];
                return a[1];
            case "tear":
                row(a[0]);
                rows[a[0]] = null;
                return 1;
            case "copy": {
                bad(no(a[2], 6));
                find(a[4] < 0, SIZE);
                int[] from = row(a[0]), to = row(a[2]);
                find(a[1] < 0 || (long) a[1] + a[4] > from.length, BEYOND);
                find(a[3] < 0 || (long) a[3] + a[4] > to.length, BEYOND);
                int[] taken = from.clone();
                for (int i = 0; i < a[4]; i++) to[a[3] + i] = taken[a[1] + i];
                return 1;
            }
            case "mean": {
                long sum = 0;
                for (int v : row(a[0])) sum += v;
                find(rows[a[0]].length == 0, NOUGHT);
                asked = (int) (sum / rows[a[0]].length);
                return 1;
            }
            default:
                find(no(a[1], row(a[0]).length), BEYOND);
                asked = rows[a[0]][a[1]];
                if (name.equals("lay")) rows[a[0]][a[1]] = a[2];
                return 1;
        }
    }

    private int textCall(String name, int[] a) {
        bad(no(a[0], 4));
        switch (name) {
            case "text":
                bad(a[1] > 120);
                find(a[1] < 0, SIZE);
                texts[a[0]] = new byte[a[1]];
                Arrays.fill(texts[a[0]], (byte) 32);
                return a[1];
            case "put": {
                find(texts[a[0]] == null, NOTHING);
                find(no(a[1], texts[a[0]].length), BEYOND);
                int was = texts[a[0]][a[1]];
                texts[a[0]][a[1]] = (byte) a[2];
                return was + 1000;
            }
            case "fault":
                find(texts[a[0]] == null, NOTHING);
                return a[1] == 1 ? pageFault(signs(texts[a[0]])) : faultBy(RULE, signs(texts[a[0]]));
            case "rule":
                bad(no(a[1], 4));
                find(texts[a[1]] == null, NOTHING);
                when(faultBy(RULE, signs(texts[a[1]])) != NONE, STATE);
                rules.set(a[0], ruleOf(signs(texts[a[1]])));
                return rules.get(a[0]).size();
            case "numbered":
                bad(no(a[1], 3540));
                rules.set(a[0], RULES.get(a[1]));
                return RULES.get(a[1]).size();
            case "page":
                bad(no(a[1], 4));
                find(texts[a[1]] == null, NOTHING);
                when(pageFault(signs(texts[a[1]])) != NONE, STATE);
                pages[a[0]] = pageOf(signs(texts[a[1]]));
                return pages[a[0]].lines.size();
            case "line": {
                find(no(a[1], page(a[0]).lines.size()), BEYOND);
                int[] line = pages[a[0]].lines.get(a[1]);
                asked = line[1];
                return line[0];
            }
            case "expects": {
                bad(no(a[1], 6));
                List<String> rule = rule(a[0]);
                int[] row = row(a[1]);
                find(row.length > 23, SIZE);
                find(!weathers(row), UNLIKE);
                asked = teller(rule, row, row.length);
                return expected(rule, row, row.length);
            }
            default: return clauseCall(name, a);
        }
    }

    private int clauseCall(String name, int[] a) {
        boolean mark = name.equals("mark");
        bad(mark && (a[2] < 1 || a[2] > 5));
        find(no(a[1], rule(a[0]).size()), BEYOND);
        String clause = rules.get(a[0]).get(a[1]);
        int kind = "-cbsay".indexOf(clause.charAt(0));
        if (!mark) {
            asked = kind;
            return CLAUSES.indexOf(clause);
        }
        String such = new String[] {"csa", "by", "s", "a", "y"}[a[2] - 1];
        find(such.indexOf(clause.charAt(0)) < 0, UNLIKE);
        if (kind == 5) return 1;
        return a[2] == 1 ? clause.charAt(clause.length() - 1) - '0' : parts(clause)[0];
    }

    private int daysCall(String name, int[] a) {
        switch (name) {
            case "days": {
                bad(no(a[0], 4) || no(a[1], 4) || no(a[2], 6));
                rows[a[2]] = all(rule(a[0]), page(a[1]));
                asked = bits(idle(rule(a[0]), page(a[1])));
                return rows[a[2]].length;
            }
            case "write": {
                bad(no(a[0], 4) || no(a[1], 6) || no(a[2], 4));
                rule(a[0]);
                days(row(a[1]));
                pages[a[2]] = written(rule(a[0]), row(a[1]));
                return pages[a[2]].lines.size();
            }
            case "fewest": case "many": {
                bad(no(a[0], 6) || a[1] < 1 || a[1] > 2);
                days(row(a[0]));
                int best = 99, first = 0, alike = 0;
                for (int n = 0; n < ofSize(a[1]).size(); n++) {
                    int needed = written(RULES.get(n), rows[a[0]]).lines.size();
                    if (needed < best) { best = needed; first = n; alike = 0; }
                    if (needed == best) alike++;
                }
                if (name.equals("many")) return alike;
                asked = first;
                return best;
            }
            case "open": {
                bad(no(a[0], 4) || no(a[1], 4));
                int[] days = all(rule(a[0]), page(a[1]));
                int[] lined = new int[days.length];
                for (int[] line : pages[a[1]].lines) lined[line[0]] = 1;
                reading = new int[][] {days, lined};
                read = 0;
                return days.length;
            }
            case "read":
                when(reading == null, STATE);
                when(read == reading[0].length, SPENT);
                asked = reading[1][read];
                return reading[0][read++];
            case "keep":
                bad(no(a[0], 3));
                when(reading == null, STATE);
                kept[a[0]] = reading;
                keptRead[a[0]] = read;
                return read;
            default:
                bad(no(a[0], 3));
                find(kept[a[0]] == null, NOTHING);
                reading = kept[a[0]];
                read = keptRead[a[0]];
                return read;
        }
    }

    private static int bits(boolean[] set) {
        int bits = 0;
        for (int i = 0; i < set.length; i++) if (set[i]) bits += 1 << i;
        return bits;
    }

    private int leafCall(String name, int[] a) {
        bad(name.equals("can") && no(a[5], 24));
        List<int[]> worlds = leaf(a[0], a[1], a[2], a[3], a[4]);
        int days = pages[a[1]].days;
        if (name.equals("worlds")) return worlds.size();
        if (name.equals("can")) {
            find(a[5] >= days, BEYOND);
            boolean[] set = new boolean[4];
            for (int[] world : worlds) set[world[a[5]]] = true;
            return bits(set);
        }
        find(worlds.isEmpty(), NOUGHT);
        boolean[] sure = new boolean[days];
        for (int d = 0; d < days; d++) {
            sure[d] = true;
            for (int[] world : worlds) sure[d] &= world[d] == worlds.get(0)[d];
        }
        return bits(sure);
    }

    private int unknownCall(String name, int[] a) {
        bad(no(a[0], 4) || a[1] < 1 || a[1] > 2);
        bad(name.equals("likely") && (no(a[2], 24) || no(a[3], 4)));
        Lines page = page(a[0]);
        find(name.equals("likely") && a[2] >= page.days, BEYOND);
        List<Integer> such = possible(page, a[1]);
        if (name.equals("left")) such.removeIf(n -> notSo(all(RULES.get(n), page)) > 0);
        if (name.equals("left") || name.equals("rules")) {
            asked = such.isEmpty() ? NONE : such.get(0);
            return such.size();
        }
        find(such.isEmpty(), NOUGHT);
        if (name.equals("agree")) {
            boolean[] agreed = new boolean[page.days];
            for (int d = 0; d < page.days; d++) agreed[d] = alikeAtMost(such, page, d) == such.size();
            return bits(agreed);
        }
        if (name.equals("ask")) {
            int best = 0, least = such.size() + 1;
            for (int d = 0; d < page.days; d++) {
                int most = alikeAtMost(such, page, d);
                if (most < least) { least = most; best = d; }
            }
            asked = least;
            return best;
        }
        int so = 0;
        for (int n : such) if (all(RULES.get(n), page)[a[2]] == a[3]) so++;
        upper = so;
        lower = such.size();
        for (int p = such.size(); p > 1; p--) {
            if (upper % p == 0 && lower % p == 0) { upper /= p; lower /= p; }
        }
        return so;
    }

    private int lateCall(String name, int[] a) {
        switch (name) {
            case "changed": {
                int turns = turns(a[0], a[1], a[2], a[3]);
                asked = NONE;
                for (int t = 24; t >= 0; t--) if ((turns >> t & 1) == 1) asked = t;
                return Integer.bitCount(turns);
            }
            case "when": return turns(a[0], a[1], a[2], a[3]);
            case "joined": {
                for (int v : a) bad(no(v, 4));
                int[] one = all(rule(a[0]), page(a[1])), two = all(rule(a[2]), page(a[3]));
                asked = Math.min(one.length, two.length);
                boolean[] unlike = new boolean[asked];
                for (int d = 0; d < asked; d++) unlike[d] = one[d] != two[d];
                return bits(unlike);
            }
            case "follows": {
                bad(no(a[0], 4) || no(a[1], 4));
                rule(a[0]);
                find(no(a[2], page(a[1]).lines.size()), BEYOND);
                int day = pages[a[1]].lines.get(a[2])[0];
                int[] with = all(rule(a[0]), page(a[1])), without = all(rule(a[0]), page(a[1]).without(day, day));
                asked = NONE;
                int unlike = 0;
                for (int d = 0; d < with.length; d++) if (with[d] != without[d]) { unlike++; asked = d; }
                return unlike;
            }
            case "know":
                bad(no(a[0], 24) || no(a[1], 4));
                when(known.size() == 8, FULL);
                known.add(a.clone());
                return known.size() - 1;
            case "forget": {
                bad(a[0] < 0 || a[0] > known.size());
                int went = known.size() - a[0];
                known.subList(a[0], known.size()).clear();
                return went;
            }
            case "forbids": {
                bad(no(a[0], 4) || no(a[1], 4));
                int[] days = all(rule(a[0]), page(a[1]));
                if (notSo(days) == 0) return NONE;
                asked = notSo(days);
                int i = 0;
                while (known.get(i)[0] >= days.length || days[known.get(i)[0]] == known.get(i)[1]) i++;
                return i;
            }
            case "suspects": {
                bad(no(a[0], 4) || no(a[1], 4));
                List<String> rule = rule(a[0]);
                Lines page = page(a[1]);
                asked = NONE;
                for (int n = 3; n >= 0; n--) if (soWithout(rule, page, 0, n)) asked = n;
                boolean[] set = new boolean[page.lines.size()];
                for (int i = 0; i < set.length; i++) {
                    int day = page.lines.get(i)[0];
                    set[i] = notSo(all(rule, page.without(day, day))) == 0;
                }
                return bits(set);
            }
            case "count":
                bad(no(a[0], 8));
                return countOf(a[0]);
            default:
                bad(a[0] < 1 || a[0] > 5);
                return findings[a[0]];
        }
    }

    // ---- the calls

    private static final String[] CALLS = {
        "row 6n", "lay 6iw", "at 6i", "tear 6", "copy 6i6ip", "mean 6", "text 4n", "put 4ix", "fault 4b",
        "rule 44", "numbered 4N", "page 44", "clause 4c", "mark 4ck", "line 4l", "expects 46", "days 446",
        "write 464", "fewest 6z", "many 6z", "open 44", "read ", "read ", "read ", "keep 3", "on 3", "worlds 44LLm",
        "sure 44LLm", "can 44LLmd", "rules 4z", "agree 4z", "ask 4z", "likely 4zdv", "left 4z", "changed 4446",
        "when 4446", "joined 4444", "follows 44l", "know dv", "forget K", "forbids 44", "suspects 44",
        "count C", "findings F"};

    private static int argument(char kind, Random by) {
        if (by.nextInt(60) == 0) return by.nextInt(4) == 0 ? by.nextInt() : by.nextInt(12) - 4;
        if (by.nextInt(400) == 0) return by.nextBoolean() ? Integer.MIN_VALUE : Integer.MAX_VALUE;
        switch (kind) {
            case '6': return by.nextInt(6);
            case '4': return by.nextInt(4);
            case '3': return by.nextInt(3);
            case 'n': return by.nextInt(8) == 0 ? by.nextInt(125) - 2 : by.nextInt(20);
            case 'i': return by.nextInt(12) - 1;
            case 'p': return by.nextInt(6);
            case 'w': return by.nextInt(20) == 0 ? by.nextInt() : by.nextInt(4);
            case 'x': return by.nextInt(3) == 0 ? by.nextInt(600) - 300 : " cybsand:012345"
                    .charAt(by.nextInt(15));
            case 'b': return by.nextInt(2);
            case 'N': return by.nextInt(3550) - 3;
            case 'c': return by.nextInt(5) - 1;
            case 'k': return by.nextInt(7);
            case 'l': return by.nextInt(8) - 1;
            case 'z': return by.nextInt(12) == 0 ? 2 : by.nextInt(14) == 0 ? by.nextInt(5) - 1 : 1;
            case 'm': return by.nextInt(4);
            case 'd': return by.nextInt(16);
            case 'v': return by.nextInt(4);
            case 'K': return by.nextInt(10) - 1;
            case 'C': return by.nextInt(10) - 1;
            case 'F': return by.nextInt(7);
            default: return by.nextInt(14);
        }
    }

    private static int[] arguments(String form, Random by) {
        int[] a = new int[form.length()];
        for (int i = 0; i < a.length; i++) a[i] = argument(form.charAt(i), by);
        int leaf = form.indexOf("LL");
        if (leaf >= 0 && by.nextInt(12) > 0) {
            a[leaf + 1] = a[leaf] + by.nextInt(by.nextInt(25) == 0 ? 9 : 4);
        }
        return a;
    }

    private static long real(OtherwiseBook x, String name, int[] a) {
        switch (name) {
            case "row": return x.row(a[0], a[1]);
            case "lay": return x.lay(a[0], a[1], a[2]);
            case "at": return x.at(a[0], a[1]);
            case "tear": return x.tear(a[0]);
            case "copy": return x.copy(a[0], a[1], a[2], a[3], a[4]);
            case "mean": return x.mean(a[0]);
            case "text": return x.text(a[0], a[1]);
            case "put": return x.put(a[0], a[1], a[2]);
            case "fault": return x.fault(a[0], a[1] == 1);
            case "rule": return x.rule(a[0], a[1]);
            case "numbered": return x.numbered(a[0], a[1]);
            case "page": return x.page(a[0], a[1]);
            case "clause": return x.clause(a[0], a[1]);
            case "mark": return x.mark(a[0], a[1], a[2]);
            case "line": return x.line(a[0], a[1]);
            case "expects": return x.expects(a[0], a[1]);
            case "days": return x.days(a[0], a[1], a[2]);
            case "write": return x.write(a[0], a[1], a[2]);
            case "fewest": return x.fewest(a[0], a[1]);
            case "many": return x.many(a[0], a[1]);
            case "open": return x.open(a[0], a[1]);
            case "read": return x.read();
            case "keep": return x.keep(a[0]);
            case "on": return x.on(a[0]);
            case "worlds": return x.worlds(a[0], a[1], a[2], a[3], a[4]);
            case "sure": return x.sure(a[0], a[1], a[2], a[3], a[4]);
            case "can": return x.can(a[0], a[1], a[2], a[3], a[4], a[5]);
            default: return realLate(x, name, a);
        }
    }

    private static long realLate(OtherwiseBook x, String name, int[] a) {
        switch (name) {
            case "rules": return x.rules(a[0], a[1]);
            case "agree": return x.agree(a[0], a[1]);
            case "ask": return x.ask(a[0], a[1]);
            case "likely": return x.likely(a[0], a[1], a[2], a[3]);
            case "left": return x.left(a[0], a[1]);
            case "changed": return x.changed(a[0], a[1], a[2], a[3]);
            case "when": return x.when(a[0], a[1], a[2], a[3]);
            case "joined": return x.joined(a[0], a[1], a[2], a[3]);
            case "follows": return x.follows(a[0], a[1], a[2]);
            case "know": return x.know(a[0], a[1]);
            case "forget": return x.forget(a[0]);
            case "forbids": return x.forbids(a[0], a[1]);
            case "suspects": return x.suspects(a[0], a[1]);
            case "count": return x.count(a[0]);
            default: return x.findings(a[0]);
        }
    }

    // ---- the runs

    private final OtherwiseBook book = new OtherwiseBook();
    private final Random by;
    private final int run;
    private final int[] answered;
    private int calls = 0;

    private ModelTest(int run, int[] answered) {
        this.run = run;
        this.by = new Random(run);
        this.answered = answered;
    }

    /** Ends a run: the document promises nothing behind an object's 512th call. */
    private static final class Spent extends RuntimeException {
        Spent() {
            super(null, null, false, false);
        }
    }

    private void quick(String name, int... a) {
        if (calls + 2 * LOOK >= MOST_CALLS) throw new Spent();
        long want = call(name, a);
        calls++;
        Due.same(told(name, a), real(book, name, a), want);
        if (want >= 0 || want == NONE) answered[Arrays.asList(CALLS).indexOf(form(name))]++;
    }

    private String told(String name, int[] a) {
        return "run " + run + ": " + name + Arrays.toString(a);
    }

    private void both(String name, int... a) {
        int often = Arrays.stream(findings).sum();
        quick(name, a);
        String told = told(name, a);
        calls += 2;
        Due.same(told + ", asked()", book.asked(), asked);
        Due.same(told + ", digest()", book.digest(), digest());
        if (often != Arrays.stream(findings).sum() || name.equals("likely") || by.nextInt(6) == 0) look(told);
    }

    private void look(String told) {
        calls += LOOK - 2;
        Due.same(told + ", finding()", book.finding(), finding);
        Due.same(told + ", upper()", book.upper(), upper);
        Due.same(told + ", lower()", book.lower(), lower);
        for (int f = 1; f <= 5; f++) Due.same(told + ", findings(" + f + ")", book.findings(f), findings[f]);
    }

    private static String form(String name) {
        for (String call : CALLS) if (call.startsWith(name + " ")) return call;
        return null;
    }

    private void lay(int t, String signs) {
        both("text", t, signs.length());
        for (int i = 0; i < signs.length(); i++) {
            if (signs.charAt(i) != ' ') quick("put", t, i, signs.charAt(i));
        }
        both("fault", t, 0);
        both("fault", t, 1);
    }

    private String blanks() {
        return "  ".substring(by.nextInt(3));
    }

    /** Now and then one sign is another one, or the end is missing. */
    private String spoilt(String signs) {
        if (by.nextInt(4) > 0 || signs.isEmpty()) return signs;
        int i = by.nextInt(signs.length());
        if (by.nextInt(3) == 0) return signs.substring(0, i);
        return signs.substring(0, i) + "cybsand: 0123456789x".charAt(by.nextInt(20)) + signs.substring(i + 1);
    }

    private String ruleText() {
        StringBuilder signs = new StringBuilder(blanks());
        int clauses = by.nextInt(30) == 0 ? 5 : by.nextInt(5);
        for (int i = 0; i < clauses; i++) signs.append(CLAUSES.get(by.nextInt(59))).append(blanks());
        return spoilt(signs.toString());
    }

    private String pageText() {
        int days = by.nextInt(20) == 0 ? by.nextInt(30) : 1 + by.nextInt(14);
        StringBuilder signs = new StringBuilder(blanks() + "n" + days + blanks());
        int often = by.nextInt(4) == 0 ? 2 : 4;
        for (int d = 0; d < days && signs.length() < 110; d++) {
            if (by.nextInt(often) == 0) signs.append(d < 10 && by.nextInt(5) == 0 ? "d0" : "d").append(d)
                    .append(":").append(by.nextInt(4)).append(blanks());
        }
        return spoilt(signs.toString());
    }

    /** A row of so many days as a page has, by a rule or by two, so that changes are found. */
    private void layRow(int r) {
        if (by.nextInt(3) > 0) {
            both("days", by.nextInt(4), by.nextInt(4), r);
            if (rows[r] != null && rows[r].length > 0 && by.nextInt(3) == 0) {
                both("lay", r, by.nextInt(rows[r].length), by.nextInt(4));
            }
            return;
        }
        both("row", r, 1 + by.nextInt(12));
        for (int i = 0; i < rows[r].length; i++) quick("lay", r, i, by.nextInt(4));
    }

    /** Known things that often are so by some rule and page, so that few are gainsaid. */
    private void layKnown() {
        both("forget", 0);
        int rule = by.nextInt(4), page = by.nextInt(4);
        if (rules.get(rule) == null || pages[page] == null) return;
        Lines fewer = pages[page];
        for (int i = by.nextInt(4); i > 0; i--) {
            int day = by.nextInt(fewer.days);
            fewer = fewer.without(day, day);
        }
        int[] days = all(rules.get(rule), fewer);
        for (int i = by.nextInt(9); i > 0; i--) {
            int d = by.nextInt(days.length);
            both("know", d, days[d]);
        }
        both("forbids", rule, page);
        both("suspects", rule, page);
    }

    private void begin() {
        for (int k = 0; k < 4; k++) {
            lay(k, ruleText());
            both("rule", k, k);
            if (by.nextInt(3) == 0) both("numbered", k, argument('N', by));
        }
        for (int k = 0; k < 4; k++) {
            lay(k, pageText());
            both("page", k, k);
        }
        for (int r = 0; r < 6; r++) layRow(r);
    }

    private void go() {
        try {
            if (run % 5 > 0) begin();
            for (int i = 0; i < MOST_CALLS; i++) choose();
        } catch (Spent spent) {
            look("run " + run + ": at its end");
        }
    }

    /** A READING that is often kept and gone on from. */
    private void goOnReading() {
        both("open", by.nextInt(4), by.nextInt(4));
        for (int i = by.nextInt(8); i > 0; i--) {
            if (by.nextInt(3) == 0) both("keep", by.nextInt(3));
            if (by.nextInt(3) == 0) both("on", by.nextInt(3));
            both("read");
        }
    }

    private void choose() {
        int choice = by.nextInt(60);
        int t = by.nextInt(4);
        if (choice == 0) { lay(t, ruleText()); both("rule", by.nextInt(4), t); }
        else if (choice == 1) { lay(t, pageText()); both("page", by.nextInt(4), t); }
        else if (choice == 2) layRow(by.nextInt(6));
        else if (choice == 3) layKnown();
        else if (choice == 4) both("write", t, by.nextInt(6), by.nextInt(4));
        else if (choice == 5) goOnReading();
        else {
            String[] form = CALLS[by.nextInt(CALLS.length)].split(" ", 2);
            both(form[0], arguments(form[1], by));
        }
    }

    public static void main(String[] args) {
        int runs = args.length > 0 ? Integer.parseInt(args[0]) : 2000;
        Due.part("model");
        int[] answered = new int[CALLS.length];
        for (int run = 0; run < runs; run++) new ModelTest(run, answered).go();
        for (int i = 0; i < CALLS.length; i++) {
            boolean again = i > 0 && CALLS[i].equals(CALLS[i - 1]);
            if (answered[i] < 20 && !again) Due.tell(CALLS[i] + " was answered only " + answered[i] + " times");
        }
        Due.end();
    }
}
