import java.util.ArrayList;
import java.util.HashSet;
import java.util.List;
import java.util.Set;
import java.util.TreeSet;
import java.util.regex.Matcher;
import java.util.regex.Pattern;

/**
 * The document once more, written as near to its words as it goes and by other means than MadeOf:
 * rows of ints in lists, sets for groups, whole rows of makes for ways, a table of states for texts.
 */
final class PlainMadeOf {
    private static final Pattern TOKEN = Pattern.compile("[a-z]+|[0-9]+|[^ ]", Pattern.DOTALL);

    private final List<Integer> makers = new ArrayList<>();
    private final List<int[]> makes = new ArrayList<>();
    private final List<int[]> links = new ArrayList<>();
    private final List<int[]> holdings = new ArrayList<>();
    private final List<int[]> joins = new ArrayList<>();
    private final List<int[]> unlikes = new ArrayList<>();
    private final List<Reading> warnings = new ArrayList<>();
    private final List<Set<Integer>> told = new ArrayList<>();
    private String tape = "";
    private int fault = -1;
    private int status = 0;

    int part(int maker) {
        return end(first(maker < 0 || maker > 9, false, false, makers.size() == 30), () -> {
            makers.add(maker);
            return makers.size() - 1;
        });
    }

    int make(int part, int a, int b, int c) {
        boolean wrong = a < 0 || a > 999 || b < 0 || b > 999 || c < 0 || c > 999;
        return end(first(wrong, !has(makers, part), find(part, a, b, c) >= 0, makes.size() == 60), () -> {
            makes.add(new int[] {part, a, b, c});
            return makes.size() - 1;
        });
    }

    int find(int part, int a, int b, int c) {
        for (int m = 0; m < makes.size(); m++) {
            if (java.util.Arrays.equals(makes.get(m), new int[] {part, a, b, c})) {
                return m;
            }
        }
        return -1;
    }

    int link(int from, int to, int sort, int known) {
        boolean wrong = sort < 0 || sort > 3 || noDay(known);
        boolean missing = !has(makes, from) || !has(makes, to);
        return end(first(wrong, missing, from == to, links.size() == 200), () -> {
            links.add(new int[] {from, to, sort, known, Integer.MAX_VALUE});
            return links.size() - 1;
        });
    }

    int cut(int link, int known) {
        boolean twice = has(links, link) && links.get(link)[4] != Integer.MAX_VALUE;
        return end(first(noDay(known), !has(links, link), twice, false), () -> {
            links.get(link)[4] = known;
            return 0;
        });
    }

    int counts(int link, int known) {
        return !has(links, link) || noDay(known) ? -1 : live(links.get(link), known) ? 1 : 0;
    }

    int hold(int site, int make, int from, int to, int known) {
        boolean wrong = noSite(site) || noDay(from) || noDay(to) || noDay(known) || from > to;
        return end(first(wrong, !has(makes, make), false, holdings.size() == 100), () -> {
            holdings.add(new int[] {site, make, from, to, known});
            return holdings.size();
        });
    }

    int join(int a, int b, int known) {
        return end(first(noDay(known), !has(makers, a) || !has(makers, b), a == b, joins.size() == 40), () -> {
            joins.add(new int[] {a, b, known, 0});
            return joins.size() - 1;
        });
    }

    int undo(int join) {
        return end(first(false, !has(joins, join), has(joins, join) && joins.get(join)[3] == 1, false), () -> {
            joins.get(join)[3] = 1;
            return 0;
        });
    }

    int unlike(int a, int b, int known) {
        return end(first(noDay(known), !has(makers, a) || !has(makers, b), a == b, unlikes.size() == 40), () -> {
            unlikes.add(new int[] {a, b, known});
            return unlikes.size();
        });
    }

    int group(int part, int known) {
        return !has(makers, part) || noDay(known) ? -1 : groupOf(part, known).first();
    }

    int quarrels(int known) {
        return noDay(known) ? -1 : groupsOn(known, new ArrayList<>());
    }

    int feed(int a, int b, int c, int d, int e) {
        if (tape.length() > 180) {
            return -1;
        }
        byte[] bytes = java.nio.ByteBuffer.allocate(20).putInt(a).putInt(b).putInt(c).putInt(d).putInt(e).array();
        tape += new String(bytes, java.nio.charset.StandardCharsets.ISO_8859_1);
        return tape.length();
    }

    int end(int n) {
        if (n < 0 || n > tape.length()) {
            return -1;
        }
        tape = tape.substring(0, n);
        return n;
    }

    int warning() {
        String text = tape;
        tape = "";
        if (warnings.size() == 20) {
            status = -5;
            return -5;
        }
        Reading reading = new Reading(text, makers.size());
        fault = reading.fault;
        status = fault < 0 ? 0 : -6;
        if (fault >= 0) {
            return -6;
        }
        warnings.add(reading);
        told.add(new TreeSet<>());
        return warnings.size() - 1;
    }

    int fault() {
        return fault;
    }

    int bad(int warning, int make, int known) {
        return !has(warnings, warning) || !has(makes, make) || noDay(known) ? -1 : isBad(warning, make, known) ? 1 : 0;
    }

    int hit(int warning, int make, int known) {
        if (!has(warnings, warning) || !has(makes, make) || noDay(known)) {
            return -1;
        }
        return wayOf(warning, make, known, false) != null ? 2 : wayOf(warning, make, known, true) != null ? 1 : 0;
    }

    int way(int warning, int make, int known, int i) {
        int hit = hit(warning, make, known);
        if (hit < 0 || i < -1) {
            return -1;
        }
        List<Integer> row = hit == 0 ? List.of() : wayOf(warning, make, known, hit == 1);
        return i == -1 ? row.size() : i < row.size() ? row.get(i) : -1;
    }

    int has(int warning, int site, int day, int known) {
        if (!has(warnings, warning) || noSite(site) || noDay(day) || noDay(known)) {
            return -1;
        }
        int best = 0;
        for (int[] h : holdings) {
            if (h[0] == site && h[2] <= day && day <= h[3] && h[4] <= known) {
                best = Math.max(best, hit(warning, h[1], known));
            }
        }
        return best;
    }

    int since(int warning, int site, int known) {
        if (!has(warnings, warning) || noSite(site) || noDay(known)) {
            return -1;
        }
        // A site begins to have something only on a day on which a holding begins.
        TreeSet<Integer> days = new TreeSet<>();
        for (int[] h : holdings) {
            days.add(h[2]);
        }
        for (int day : days) {
            if (has(warning, site, day, known) > 0) {
                return day;
            }
        }
        return -1;
    }

    int gaps(int make, int known, int what) {
        if (!has(makes, make) || noDay(known) || what < 0 || what > 1) {
            return -1;
        }
        Set<Integer> sought = new HashSet<>();
        Set<Integer> there = new HashSet<>();
        for (int[] l : links) {
            if (l[0] == make && live(l, known) && l[2] < 2) {
                (l[2] == 1 - what ? sought : there).add(group(makes.get(l[1])[0], known));
            }
        }
        sought.removeAll(there);
        return sought.size();
    }

    int ring(int make, int known) {
        if (!has(makes, make) || noDay(known)) {
            return -1;
        }
        boolean[] seen = new boolean[makes.size()];
        visit(make, known, seen);
        return seen[make] ? 1 : 0;
    }

    private void visit(int make, int known, boolean[] seen) {
        for (int[] l : links) {
            if (l[0] == make && live(l, known) && !seen[l[1]]) {
                seen[l[1]] = true;
                visit(l[1], known, seen);
            }
        }
    }

    int calls(int known) {
        if (noDay(known)) {
            return -1;
        }
        for (int size = 0; size <= 10; size++) {
            for (int asked = 0; asked < 1024; asked++) {
                if (Integer.bitCount(asked) == size && settles(asked, known)) {
                    return asked;
                }
            }
        }
        return -99;
    }

    private boolean settles(int asked, int known) {
        for (int[] l : links) {
            int both = 1 << makers.get(makes.get(l[0])[0]) | 1 << makers.get(makes.get(l[1])[0]);
            if (l[2] == 3 && live(l, known) && (both & asked) == 0) {
                return false;
            }
        }
        return true;
    }

    int recall(int warning, int day, int known) {
        return end(first(noDay(day) || noDay(known), !has(warnings, warning), false, false), () -> {
            int before = told.get(warning).size();
            for (int site = 0; site < 30; site++) {
                if (has(warning, site, day, known) > 0) {
                    told.get(warning).add(site);
                }
            }
            return told.get(warning).size() - before;
        });
    }

    int told(int warning) {
        int bits = 0;
        if (has(warnings, warning)) {
            for (int site : told.get(warning)) {
                bits += 1 << site;
            }
        }
        return bits;
    }

    int count(int what) {
        int[] sizes = {makers.size(), makes.size(), links.size(), holdings.size(), joins.size(), unlikes.size(),
            warnings.size(), tape.length()};
        return what < 0 || what >= sizes.length ? -1 : sizes[what];
    }

    int status() {
        return status;
    }

    private interface Deed {
        int run();
    }

    private int first(boolean wrong, boolean missing, boolean twice, boolean full) {
        return wrong ? -1 : missing ? -2 : twice ? -4 : full ? -5 : 0;
    }

    private int end(int refusal, Deed deed) {
        status = refusal;
        return refusal != 0 ? refusal : deed.run();
    }

    private static boolean has(List<?> rows, int n) {
        return n >= 0 && n < rows.size();
    }

    private static boolean noDay(int day) {
        return day < 0 || day > 10000;
    }

    private static boolean noSite(int site) {
        return site < 0 || site > 29;
    }

    private static boolean live(int[] link, int known) {
        return link[3] <= known && !(link[4] <= known);
    }

    private int groupsOn(int known, List<TreeSet<Integer>> groups) {
        int quarrels = 0;
        for (int p = 0; p < makers.size(); p++) {
            groups.add(new TreeSet<>(List.of(p)));
        }
        for (int[] j : joins) {
            if (j[2] <= known && j[3] == 0) {
                TreeSet<Integer> one = groupWith(groups, j[0]);
                TreeSet<Integer> other = groupWith(groups, j[1]);
                if (quarrel(one, other, known)) {
                    quarrels++;
                } else if (one != other) {
                    one.addAll(other);
                    groups.removeIf(g -> g == other);
                }
            }
        }
        return quarrels;
    }

    private boolean quarrel(Set<Integer> one, Set<Integer> other, int known) {
        for (int[] u : unlikes) {
            boolean apart = one.contains(u[0]) && other.contains(u[1]) || one.contains(u[1]) && other.contains(u[0]);
            if (u[2] <= known && apart) {
                return true;
            }
        }
        return false;
    }

    private static TreeSet<Integer> groupWith(List<TreeSet<Integer>> groups, int part) {
        for (TreeSet<Integer> g : groups) {
            if (g.contains(part)) {
                return g;
            }
        }
        throw new IllegalStateException("no group of " + part);
    }

    private TreeSet<Integer> groupOf(int part, int known) {
        List<TreeSet<Integer>> groups = new ArrayList<>();
        groupsOn(known, groups);
        return groupWith(groups, part);
    }

    private boolean isBad(int warning, int make, int known) {
        int[] m = makes.get(make);
        Reading reading = warnings.get(warning);
        return groupOf(reading.part, known).contains(m[0]) && reading.holds(m);
    }

    /** The way as a whole row; null without. Rows grow from the bad ones, a make longer each time. */
    private List<Integer> wayOf(int warning, int make, int known, boolean guessedToo) {
        List<List<Integer>> rows = new ArrayList<>();
        for (int m = 0; m < makes.size(); m++) {
            rows.add(isBad(warning, m, known) ? List.of(m) : null);
        }
        for (int length = 1; length <= makes.size(); length++) {
            if (rows.get(make) != null) {
                return rows.get(make);
            }
            List<List<Integer>> longer = new ArrayList<>(java.util.Collections.nCopies(makes.size(), null));
            for (int[] l : links) {
                if (live(l, known) && (guessedToo || l[2] != 3) && rows.get(l[1]) != null) {
                    List<Integer> row = new ArrayList<>(List.of(l[0]));
                    row.addAll(rows.get(l[1]));
                    List<Integer> old = longer.get(l[0]);
                    longer.set(l[0], old == null || before(row, old) ? row : old);
                }
            }
            rows = longer;
        }
        return rows.get(make);
    }

    private static boolean before(List<Integer> a, List<Integer> b) {
        for (int i = 0; i < a.size(); i++) {
            if (!a.get(i).equals(b.get(i))) {
                return a.get(i) < b.get(i);
            }
        }
        return false;
    }

    /** A text read by a table of states: each state says what may come. */
    private static final class Reading {
        private enum State { START, PART, TEST, MAYBE_SAME, NUMBER_1, BEHIND_1, NUMBER_2, BEHIND_2, NUMBER_3, CLOSED, STUCK }

        private final List<List<int[]>> terms = new ArrayList<>(List.of(new ArrayList<>()));
        private final int parts;
        private int part = -1;
        private int tests = 0;
        private int fault = -1;

        Reading(String text, int parts) {
            this.parts = parts;
            State state = State.START;
            Matcher m = TOKEN.matcher(text);
            while (m.find()) {
                state = next(state, m.group());
                if (state == State.STUCK) {
                    fault = m.start();
                    return;
                }
            }
            if (state != State.BEHIND_1 && state != State.BEHIND_2 && state != State.CLOSED) {
                fault = text.length();
            }
        }

        private State next(State state, String token) {
            switch (state) {
                case START: return token.equals("bad") ? State.PART : State.STUCK;
                case PART:
                    part = number(token, parts - 1);
                    return part >= 0 ? State.TEST : State.STUCK;
                case TEST: return opening(token);
                case MAYBE_SAME:
                    if (token.equals("=")) {
                        latest()[1] = 1;
                        return State.NUMBER_1;
                    }
                    return version(token, 2, State.BEHIND_1);
                case NUMBER_1: return version(token, 2, State.BEHIND_1);
                case NUMBER_2: return version(token, 3, State.BEHIND_2);
                case NUMBER_3: return version(token, 4, State.CLOSED);
                case BEHIND_1: return token.equals(".") ? State.NUMBER_2 : closed(token);
                case BEHIND_2: return token.equals(".") ? State.NUMBER_3 : closed(token);
                default: return closed(token);
            }
        }

        private State opening(String token) {
            tests++;
            if (tests > 30 || !List.of("any", "<", ">", "=").contains(token)) {
                return State.STUCK;
            }
            // The sign, whether the same version holds too, and the version.
            terms.get(terms.size() - 1).add(new int[] {token.charAt(0), token.equals("=") ? 1 : 0, 0, 0, 0});
            return token.equals("any") ? State.CLOSED : token.equals("=") ? State.NUMBER_1 : State.MAYBE_SAME;
        }

        private State version(String token, int place, State then) {
            int n = number(token, 999);
            if (n < 0) {
                return State.STUCK;
            }
            latest()[place] = n;
            return then;
        }

        private State closed(String token) {
            if (token.equals("or")) {
                terms.add(new ArrayList<>());
            }
            return token.equals("or") || token.equals("and") ? State.TEST : State.STUCK;
        }

        private int[] latest() {
            List<int[]> term = terms.get(terms.size() - 1);
            return term.get(term.size() - 1);
        }

        private static int number(String token, int most) {
            if (!token.matches("[0-9]+")) {
                return -1;
            }
            java.math.BigInteger n = new java.math.BigInteger(token);
            return n.compareTo(java.math.BigInteger.valueOf(most)) > 0 ? -1 : n.intValue();
        }

        boolean holds(int[] make) {
            return terms.stream().anyMatch(term -> term.stream().allMatch(test -> holds(test, make)));
        }

        private static boolean holds(int[] test, int[] make) {
            int order = 0;
            for (int i = 1; i <= 3 && order == 0; i++) {
                order = Integer.compare(make[i], test[i + 1]);
            }
            boolean same = test[1] == 1 && order == 0;
            return test[0] == 'a' || same || test[0] == '<' && order < 0 || test[0] == '>' && order > 0;
        }
    }
}
