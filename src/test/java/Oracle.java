import java.util.ArrayList;
import java.util.HashMap;
import java.util.HashSet;
import java.util.List;
import java.util.Map;
import java.util.Set;
import java.util.TreeSet;

/**
 * The document said once more, as plainly as can be and with none of the program's code: sets of
 * numbers, rows of calls played anew from the net for each question, faults of texts by looking
 * which beginnings a text can have. It bears the names of the face, so that a test can ask both.
 */
final class Oracle {
    private static final int UNKNOWN = -1, OUTSIDE = -2, STATE = -3, FULL = -4, NONE = -9;
    private static final long LOST = Long.MIN_VALUE;

    /** What all have at one moment. */
    private static final class Moment {
        final List<Set<Integer>> secrets = new ArrayList<>();
        final List<Set<Integer>> numbers = new ArrayList<>();
        final Set<Integer> tokens = new TreeSet<>();
        final Set<Integer> hubs = new TreeSet<>();

        static Moment first(List<Set<Integer>> net) {
            Moment m = new Moment();
            for (int p = 0; p < net.size(); p++) {
                m.secrets.add(new TreeSet<>(Set.of(p)));
                m.numbers.add(new TreeSet<>(net.get(p)));
                m.numbers.get(p).add(p);
                m.tokens.add(p);
                m.hubs.add(p);
            }
            return m;
        }

        Moment behind(int p, int q) {
            Moment m = new Moment();
            for (Set<Integer> s : secrets) m.secrets.add(new TreeSet<>(s));
            for (Set<Integer> s : numbers) m.numbers.add(new TreeSet<>(s));
            m.secrets.get(p).addAll(secrets.get(q));
            m.secrets.get(q).addAll(secrets.get(p));
            m.numbers.get(p).addAll(numbers.get(q));
            m.numbers.get(q).addAll(numbers.get(p));
            m.tokens.addAll(tokens);
            m.tokens.remove(p);
            m.tokens.add(q);
            m.hubs.addAll(hubs);
            m.hubs.remove(q);
            return m;
        }

        int size() {
            return secrets.size();
        }

        boolean expert(int p) {
            return secrets.get(p).size() == size();
        }

        boolean allExperts() {
            for (int p = 0; p < size(); p++) if (!expert(p)) return false;
            return true;
        }

        boolean may(int rule, int p, int q) {
            if (p == q || !numbers.get(p).contains(q)) return false;
            boolean unlike = !secrets.get(p).equals(secrets.get(q));
            switch (rule) {
                case 0: return unlike;
                case 1: return !secrets.get(p).contains(q);
                case 2: return unlike && tokens.contains(p);
                default: return unlike && hubs.contains(p);
            }
        }

        String key() {
            return secrets + "/" + numbers + "/" + tokens + "/" + hubs;
        }
    }

    /** All runs from a moment on: how many, how many good, and how long the good ones are. */
    private static final class Tally {
        long all, good;
        int fewest = Integer.MAX_VALUE, most = -1;
    }

    private static final Map<String, Tally> TALLIES = new HashMap<>();

    private List<Set<Integer>> net = new ArrayList<>();
    private final List<int[]> calls = new ArrayList<>();
    private final long[][] sheets = new long[4][];
    private final int[] lanes = new int[4];
    private int trace = 0;
    private int fault = 0;

    // ---- 1

    int net(int sheet, int lane, int i, int n) {
        fault = 0;
        if (sheet < 0 || sheet > 3) return UNKNOWN;
        if (lane < 0 || lane > 2) return OUTSIDE;
        if (sheets[sheet] != null && lanes[sheet] != lane) return wrong(2);
        if (sheets[sheet] == null) return wrong(1);
        if (n < 0) return wrong(4);
        int there = sheets[sheet].length;
        if (i < 0 || i > there || (long) i + n > there) return wrong(3);
        StringBuilder text = new StringBuilder();
        for (int k = i; k < i + n; k++) {
            long code = sheets[sheet][k];
            text.append(code > 0 && code < 128 ? (char) code : '?');
        }
        int place = firstFault(text.toString());
        if (place >= 0) return -100 - place;
        net = new ArrayList<>();
        for (String item : text.toString().split(";")) {
            Set<Integer> has = new TreeSet<>();
            for (char digit : item.substring(1).toCharArray()) has.add(digit - '0');
            net.add(has);
        }
        calls.clear();
        return net.size();
    }

    static int firstFault(String text) {
        for (int place = 0; place < text.length(); place++) {
            if (!someTextBeginsWith(text.substring(0, place + 1))) return place;
        }
        if (text.isEmpty() || text.endsWith(";")) return text.length();
        int items = text.split(";").length;
        for (int place = 0; place < text.length(); place++) {
            if ("0123".indexOf(text.charAt(place)) >= items) return place;
        }
        return -1;
    }

    private static boolean someTextBeginsWith(String start) {
        String[] items = start.split(";", -1);
        if (items.length > 4) return false;
        for (int k = 0; k < items.length; k++) {
            if (items[k].isEmpty() && k == items.length - 1) continue;
            if (!items[k].matches("p[0123]*")) return false;
            Set<Character> digits = new HashSet<>();
            digits.add((char) ('0' + k));
            for (char digit : items[k].substring(1).toCharArray()) if (!digits.add(digit)) return false;
        }
        return true;
    }

    int ofPerson(int p, int what) {
        if (!person(p)) return UNKNOWN;
        Moment m = now();
        switch (what) {
            case 0: return bits(m.secrets.get(p));
            case 1: return bits(m.numbers.get(p));
            case 2: return bits(Moment.first(net).numbers.get(p));
            case 3: return m.expert(p) ? 1 : 0;
            case 4: return m.tokens.contains(p) ? 1 : 0;
            case 5: return m.hubs.contains(p) ? 1 : 0;
            default: return OUTSIDE;
        }
    }

    int call(int p, int q) {
        if (!person(p) || !person(q)) return UNKNOWN;
        if (p == q) return OUTSIDE;
        if (!now().numbers.get(p).contains(q)) return STATE;
        if (calls.size() == 12) return FULL;
        calls.add(new int[] {p, q});
        return calls.size() - 1;
    }

    int ofCall(int c, int what) {
        if (c < 0 || c >= calls.size()) return UNKNOWN;
        int p = calls.get(c)[0], q = calls.get(c)[1];
        switch (what) {
            case 0: return kind(c);
            case 1: return p;
            case 2: return q;
            case 3: return bits(learnt(c, p));
            case 4: return bits(learnt(c, q));
            default: return OUTSIDE;
        }
    }

    int back() {
        if (calls.isEmpty()) return STATE;
        calls.remove(calls.size() - 1);
        return calls.size();
    }

    // ---- 2

    int may(int rule, int p) {
        if (!rule(rule) || !person(p)) return UNKNOWN;
        Set<Integer> whom = new TreeSet<>();
        for (int q = 0; q < net.size(); q++) if (now().may(rule, p, q)) whom.add(q);
        return bits(whom);
    }

    long runs(int rule, int what) {
        if (!rule(rule) || what < 0 || what > 1 || net.isEmpty()) return LOST;
        return what == 0 ? tally(now(), rule).all : tally(now(), rule).good;
    }

    int verdict(int rule) {
        if (!rule(rule)) return UNKNOWN;
        if (net.isEmpty()) return STATE;
        return verdict(now(), rule);
    }

    int calls(int rule, int what) {
        if (!rule(rule)) return UNKNOWN;
        if (what < 0 || what > 1) return OUTSIDE;
        if (net.isEmpty()) return STATE;
        Tally t = tally(now(), rule);
        return t.good == 0 ? NONE : what == 0 ? t.fewest : t.most;
    }

    int keeps(int rule, int p, int q) {
        if (!rule(rule) || !person(p) || !person(q)) return UNKNOWN;
        if (p == q) return OUTSIDE;
        if (!now().may(rule, p, q)) return STATE;
        return verdict(now().behind(p, q), rule);
    }

    int best(int rule, int what) {
        if (!rule(rule)) return UNKNOWN;
        if (what < 0 || what > 1) return OUTSIDE;
        if (net.isEmpty()) return STATE;
        Moment m = now();
        Tally t = tally(m, rule);
        if (t.good == 0 || m.allExperts()) return NONE;
        for (int p = 0; p < net.size(); p++) {
            for (int q = 0; q < net.size(); q++) {
                if (!m.may(rule, p, q)) continue;
                Tally next = tally(m.behind(p, q), rule);
                if (next.good > 0 && next.fewest + 1 == t.fewest) return what == 0 ? p : q;
            }
        }
        throw new IllegalStateException("a best call there must be");
    }

    // ---- 3

    int alike(int p) {
        if (!person(p)) return UNKNOWN;
        if (calls.size() > 4) return STATE;
        return endsAlike(p).size();
    }

    int sure(int p, int q, int secret) {
        if (!person(p) || !person(q) || !person(secret)) return UNKNOWN;
        if (calls.size() > 4) return STATE;
        for (Moment m : endsAlike(p)) if (!m.secrets.get(q).contains(secret)) return 0;
        return 1;
    }

    int known(int p, int q) {
        if (!person(p) || !person(q)) return UNKNOWN;
        if (calls.size() > 4) return STATE;
        int set = 0;
        for (int s = 0; s < net.size(); s++) set |= sure(p, q, s) << s;
        return set;
    }

    int end(int p) {
        if (!person(p)) return UNKNOWN;
        if (calls.size() > 4) return STATE;
        for (Moment m : endsAlike(p)) if (!m.allExperts()) return 0;
        return 1;
    }

    // ---- 4

    int joined() {
        if (net.isEmpty()) return STATE;
        return joined(net) ? 1 : 0;
    }

    int bridge(int k) {
        if (k < -1 || k > 11) return UNKNOWN;
        if (net.isEmpty() || !joined(net)) return STATE;
        List<Integer> found = new ArrayList<>();
        for (int p = 0; p < net.size(); p++) {
            for (int q : net.get(p)) {
                List<Set<Integer>> without = copy(net);
                without.get(p).remove(q);
                if (!joined(without)) found.add(10 * p + q);
            }
        }
        return pick(found, k);
    }

    int sun() {
        if (net.isEmpty()) return STATE;
        boolean[][] way = ways(net);
        for (int p = 0; p < net.size(); p++) {
            for (int q = 0; q < net.size(); q++) if (!net.get(q).isEmpty() && !way[p][q]) return 0;
        }
        return 1;
    }

    int mend(int rule, int k) {
        if (!rule(rule) || k < -1 || k > 11) return UNKNOWN;
        if (net.isEmpty()) return STATE;
        List<Integer> found = new ArrayList<>();
        for (int p = 0; p < net.size(); p++) {
            for (int q = 0; q < net.size(); q++) {
                if (p == q || net.get(p).contains(q)) continue;
                List<Set<Integer>> with = copy(net);
                with.get(p).add(q);
                if (verdict(Moment.first(with), rule) == 2) found.add(10 * p + q);
            }
        }
        return pick(found, k);
    }

    int nets(int n, int rule, int what) {
        if (!rule(rule)) return UNKNOWN;
        if (n < 1 || n > 3 || what < 0 || what > 3) return OUTSIDE;
        int[] counts = new int[4];
        List<Set<Integer>> blank = new ArrayList<>();
        for (int p = 0; p < n; p++) blank.add(new TreeSet<>());
        countNets(blank, 0, rule, counts);
        return counts[what];
    }

    int within(int rule, int other) {
        if (!rule(rule) || !rule(other)) return UNKNOWN;
        if (rule + other == 5 && (rule == 2 || rule == 3)) return OUTSIDE;
        if (net.isEmpty()) return STATE;
        return within(now(), rule, other, new HashSet<>()) ? 1 : 0;
    }

    // ---- 5

    int sheet(int k, int lane, int n) {
        fault = 0;
        if (k < 0 || k > 3) return UNKNOWN;
        if (lane < 0 || lane > 2 || n > 60) return OUTSIDE;
        if (n < 0) return wrong(4);
        sheets[k] = new long[n];
        lanes[k] = lane;
        return 1;
    }

    int lose(int k) {
        if (k < 0 || k > 3) return UNKNOWN;
        int had = sheets[k] == null ? 0 : 1;
        sheets[k] = null;
        return had;
    }

    int put(int k, int i, int v) {
        fault = 0;
        if (k < 0 || k > 3) return UNKNOWN;
        if (sheets[k] == null) return wrong(1);
        if (i < 0 || i >= sheets[k].length) return wrong(3);
        int cut = lanes[k] == 0 ? 24 : lanes[k] == 1 ? 16 : 0;
        sheets[k][i] = v << cut >> cut;
        return 1;
    }

    long cell(int k, int i, int lane) {
        fault = 0;
        if (k < 0 || k > 3 || lane < 0 || lane > 2) return LOST;
        if (sheets[k] == null) fault = 1;
        else if (lanes[k] != lane) fault = 2;
        else if (i < 0 || i >= sheets[k].length) fault = 3;
        return fault != 0 ? LOST : sheets[k][i];
    }

    int copy(int k, int i, int other, int j, int n) {
        fault = 0;
        if (k < 0 || k > 3 || other < 0 || other > 3) return UNKNOWN;
        if (sheets[k] == null || sheets[other] == null) return wrong(1);
        if (lanes[k] != lanes[other]) return wrong(2);
        if (i < 0 || j < 0 || n < 0) return wrong(3);
        if ((long) i + n > sheets[k].length || (long) j + n > sheets[other].length) return wrong(3);
        long[] were = sheets[k].clone();
        for (int m = 0; m < n; m++) sheets[other][j + m] = were[i + m];
        return n;
    }

    int tell(int c) {
        if (c < 0 || c >= calls.size()) return UNKNOWN;
        int plain = 10 * calls.get(c)[0] + calls.get(c)[1];
        int learnt = learnt(c, calls.get(c)[0]).size() + learnt(c, calls.get(c)[1]).size();
        switch (kind(c)) {
            case 0: leave(1); return plain;
            case 1: leave(2); leave(1); return plain + 100 * learnt;
            default: leave(3); leave(2); leave(1); leave(1); return plain + 100 * learnt + plain;
        }
    }

    int log(int c) {
        if (c < 0 || c >= calls.size()) return UNKNOWN;
        leave(kind(c) == 2 ? 5 : 4);
        return kind(c) == 2 ? 70 : c;
    }

    int as(int c, int kind) {
        fault = 0;
        if (c < 0 || c >= calls.size()) return UNKNOWN;
        if (kind < 0 || kind > 2) return OUTSIDE;
        boolean is = kind == 0 || kind == 1 && kind(c) != 0 || kind == 2 && kind(c) == 2;
        return is ? 1 : wrong(2);
    }

    int trace() {
        return trace;
    }

    int fault() {
        return fault;
    }

    int many(int what) {
        int count = 0;
        switch (what) {
            case 0: return net.size();
            case 1: return calls.size();
            case 2:
                for (int p = 0; p < net.size(); p++) if (now().expert(p)) count++;
                return count;
            case 3:
                for (Set<Integer> has : net) count += has.size();
                return count;
            default: return OUTSIDE;
        }
    }

    // ---- what they share

    private boolean person(int p) {
        return p >= 0 && p < net.size();
    }

    private static boolean rule(int rule) {
        return rule >= 0 && rule <= 3;
    }

    private int wrong(int which) {
        fault = which;
        return -10 - which;
    }

    private void leave(int number) {
        trace = trace * 31 + number;
    }

    private Moment now() {
        return behind(calls.size());
    }

    private Moment behind(int count) {
        Moment m = Moment.first(net);
        for (int c = 0; c < count; c++) m = m.behind(calls.get(c)[0], calls.get(c)[1]);
        return m;
    }

    private Set<Integer> learnt(int c, int p) {
        Set<Integer> more = new TreeSet<>(behind(c + 1).secrets.get(p));
        more.removeAll(behind(c).secrets.get(p));
        return more;
    }

    private int kind(int c) {
        int p = calls.get(c)[0], q = calls.get(c)[1];
        Moment before = behind(c), after = behind(c + 1);
        boolean bothHad = before.expert(p) && before.expert(q);
        if (after.expert(p) && after.expert(q) && !bothHad) return 2;
        return learnt(c, p).isEmpty() && learnt(c, q).isEmpty() ? 0 : 1;
    }

    private static int bits(Set<Integer> set) {
        int bits = 0;
        for (int member : set) bits += 1 << member;
        return bits;
    }

    private static int pick(List<Integer> found, int k) {
        if (k == -1) return found.size();
        return k < found.size() ? found.get(k) : NONE;
    }

    private static Tally tally(Moment m, int rule) {
        String key = rule + m.key();
        Tally t = TALLIES.get(key);
        if (t != null) return t;
        t = new Tally();
        for (int p = 0; p < m.size(); p++) {
            for (int q = 0; q < m.size(); q++) {
                if (!m.may(rule, p, q)) continue;
                Tally next = tally(m.behind(p, q), rule);
                t.all += next.all;
                t.good += next.good;
                if (next.good == 0) continue;
                t.fewest = Math.min(t.fewest, next.fewest + 1);
                t.most = Math.max(t.most, next.most + 1);
            }
        }
        if (t.all == 0) {
            t.all = 1;
            if (m.allExperts()) {
                t.good = 1;
                t.fewest = 0;
                t.most = 0;
            }
        }
        TALLIES.put(key, t);
        return t;
    }

    private static int verdict(Moment m, int rule) {
        Tally t = tally(m, rule);
        return t.good == t.all ? 2 : t.good > 0 ? 1 : 0;
    }

    private List<Moment> endsAlike(int p) {
        List<Moment> ends = new ArrayList<>();
        endsAlike(p, seen(p, calls), new ArrayList<>(), Moment.first(net), ends);
        return ends;
    }

    /** All rows of as many calls, looked at as they end: what p saw of them, told as a text. */
    private void endsAlike(int p, String sight, List<int[]> row, Moment m, List<Moment> ends) {
        if (row.size() == calls.size()) {
            if (seen(p, row).equals(sight)) ends.add(m);
            return;
        }
        for (int a = 0; a < net.size(); a++) {
            for (int b : m.numbers.get(a)) {
                if (a == b) continue;
                row.add(new int[] {a, b});
                endsAlike(p, sight, row, m.behind(a, b), ends);
                row.remove(row.size() - 1);
            }
        }
    }

    private String seen(int p, List<int[]> row) {
        StringBuilder sight = new StringBuilder();
        Moment m = Moment.first(net);
        for (int[] call : row) {
            m = m.behind(call[0], call[1]);
            if (call[0] == p) sight.append("rang ").append(call[1]).append(m.secrets.get(p));
            else if (call[1] == p) sight.append("rung by ").append(call[0]).append(m.secrets.get(p));
            sight.append(';');
        }
        return sight.toString();
    }

    private static List<Set<Integer>> copy(List<Set<Integer>> net) {
        List<Set<Integer>> other = new ArrayList<>();
        for (Set<Integer> has : net) other.add(new TreeSet<>(has));
        return other;
    }

    private static boolean joined(List<Set<Integer>> net) {
        List<Set<Integer>> bothWays = copy(net);
        for (int p = 0; p < net.size(); p++) for (int q : net.get(p)) bothWays.get(q).add(p);
        boolean[][] way = ways(bothWays);
        for (boolean[] from : way) for (boolean there : from) if (!there) return false;
        return true;
    }

    private static boolean[][] ways(List<Set<Integer>> net) {
        int n = net.size();
        boolean[][] way = new boolean[n][n];
        for (int p = 0; p < n; p++) for (int q = 0; q < n; q++) way[p][q] = p == q || net.get(p).contains(q);
        for (int over = 0; over < n; over++) {
            for (int p = 0; p < n; p++) for (int q = 0; q < n; q++) way[p][q] |= way[p][over] && way[over][q];
        }
        return way;
    }

    private static void countNets(List<Set<Integer>> net, int pair, int rule, int[] counts) {
        int n = net.size();
        if (pair == n * n) {
            if (!joined(net)) return;
            counts[3]++;
            counts[verdict(Moment.first(net), rule)]++;
            return;
        }
        countNets(net, pair + 1, rule, counts);
        int p = pair / n, q = pair % n;
        if (p == q) return;
        net.get(p).add(q);
        countNets(net, pair + 1, rule, counts);
        net.get(p).remove(q);
    }

    private static boolean within(Moment m, int rule, int other, Set<String> looked) {
        if (!looked.add(m.key())) return true;
        for (int p = 0; p < m.size(); p++) {
            for (int q = 0; q < m.size(); q++) {
                if (!m.may(rule, p, q)) continue;
                if (!m.may(other, p, q) || !within(m.behind(p, q), rule, other, looked)) return false;
            }
        }
        return true;
    }
}
