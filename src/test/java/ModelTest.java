import java.util.ArrayList;
import java.util.HashMap;
import java.util.List;
import java.util.Map;

/**
 * Long runs of calls on a SlackHall and on a second model of the document.
 *
 * <p>The model keeps no row of results: each question is answered from the top, by recursion, in whole numbers of
 * 1/4096 (all that the document reckons is a multiple of that).
 */
public final class ModelTest {

    private static final long ONE = 4096;
    private static final long FREE = 99999 * ONE;
    private static final int[] SIZES = {1, 2, 4};

    private static int wrong = 0;
    private static int asked = 0;

    private static final class Told {
        final List<int[]> clocks = new ArrayList<>(); // period, latency, unsure, group, root
        final List<int[]> corners = new ArrayList<>(); // late, early
        final List<int[]> nodes = new ArrayList<>(); // kind, one, other, clock, size, wire, skew
        final List<int[]> rules = new ArrayList<>(); // sort, from, to
        boolean signed;
        int knocks;
        final Map<String, Long> memo = new HashMap<>();

        Told() {
            corners.add(new int[] {8, 8});
        }

        boolean isStart(int n) {
            int kind = nodes.get(n)[0];
            return kind == 0 || kind == 6 || kind == 7;
        }

        boolean isEnd(int n) {
            return nodes.get(n)[0] >= 6;
        }

        long loadQuarters(int n) {
            long load = nodes.get(n)[5];
            for (int[] m : nodes) {
                for (int f = 1; f <= 2; f++) {
                    if (m[f] == n) {
                        load += m[0] == 8 ? 8 : 2 * m[4];
                    }
                }
            }
            return load;
        }

        long takes(int n, boolean rise) {
            int kind = nodes.get(n)[0];
            if (kind == 0 || kind == 8) {
                return 0;
            }
            long q = loadQuarters(n);
            long base;
            if (q <= 16) {
                base = ONE + q * ONE / 16;
            } else if (q <= 32) {
                base = 2 * ONE + (q - 16) * ONE * 3 / 32;
            } else if (q <= 64) {
                base = 7 * ONE / 2 + (q - 32) * ONE * 3 / 32;
            } else {
                base = 13 * ONE / 2 + (q - 64) * ONE / 8;
            }
            base /= nodes.get(n)[4];
            if (kind >= 6) {
                base += 2 * ONE;
            }
            return rise ? base : base * 3 / 4;
        }

        int[] makers(int kind, int edge) { // edges that can make this one: 0 rise, 1 fall
            if (kind == 5) {
                return new int[] {0, 1};
            }
            return kind == 2 || kind == 4 ? new int[] {1 - edge} : new int[] {edge};
        }

        /** Null without one. */
        Long arrival(int s, int n, int c, boolean late, int edge) {
            String key = s + "/" + n + "/" + c + "/" + late + "/" + edge;
            if (memo.containsKey(key)) {
                return memo.get(key);
            }
            int[] node = nodes.get(n);
            long own = takes(n, edge == 0) * corners.get(c)[late ? 0 : 1] / 8;
            Long answer = null;
            if (n == s) {
                answer = own + (late && node[0] == 7 ? borrow(n, c) : 0);
            } else if (node[0] >= 1 && node[0] <= 5) {
                Long from = null;
                for (int f = 1; f <= 2; f++) {
                    for (int e : makers(node[0], edge)) {
                        Long a = node[f] < 0 ? null : arrival(s, node[f], c, late, e);
                        if (a != null && (from == null || (late ? a > from : a < from))) {
                            from = a;
                        }
                    }
                }
                answer = from == null ? null : (Long) (from + own);
            }
            memo.put(key, answer);
            return answer;
        }

        long ways(int s, int n) {
            int[] node = nodes.get(n);
            if (n == s) {
                return 1;
            }
            if (node[0] < 1 || node[0] > 5) {
                return 0;
            }
            String key = "w" + s + "/" + n;
            if (!memo.containsKey(key)) {
                memo.put(key, ways(s, node[1]) + (node[2] < 0 ? 0 : ways(s, node[2])));
            }
            return memo.get(key);
        }

        long waysToEnd(int s, int e) {
            return nodes.get(e)[1] < 0 ? 0 : ways(s, nodes.get(e)[1]);
        }

        int winner(int s, int e) {
            int best = -1;
            for (int i = 0; i < rules.size(); i++) {
                int[] r = rules.get(i);
                if ((r[1] < 0 || r[1] == s) && (r[2] < 0 || r[2] == e) && (best < 0 || over(r, rules.get(best)))) {
                    best = i;
                }
            }
            return best;
        }

        boolean over(int[] later, int[] earlier) {
            boolean a = later[0] == 0;
            boolean b = earlier[0] == 0;
            if (a != b) {
                return a;
            }
            int many = (later[1] >= 0 ? 1 : 0) + (later[2] >= 0 ? 1 : 0);
            int few = (earlier[1] >= 0 ? 1 : 0) + (earlier[2] >= 0 ? 1 : 0);
            if (many != few) {
                return many > few;
            }
            if ((later[1] >= 0) != (earlier[1] >= 0)) {
                return later[1] >= 0;
            }
            return true;
        }

        int[] clockOf(int n) {
            return clocks.get(nodes.get(n)[3]);
        }

        boolean comes(int s, int e) {
            return isStart(s) && isEnd(e) && waysToEnd(s, e) > 0;
        }

        boolean checked(int s, int e) {
            if (!comes(s, e) || clockOf(s)[3] != clockOf(e)[3]) {
                return false;
            }
            int w = winner(s, e);
            return w < 0 || rules.get(w)[0] != 0;
        }

        long raw(int s, int e, int c, boolean late) {
            int feed = nodes.get(e)[1];
            long l = corners.get(c)[0];
            long y = corners.get(c)[1];
            long ls = clockOf(s)[1] + nodes.get(s)[6];
            long le = clockOf(e)[1] + nodes.get(e)[6];
            boolean out = nodes.get(e)[0] == 8;
            long unsure = clockOf(e)[2] * ONE / 4;
            long credit = clockOf(s)[4] != clockOf(e)[4] ? 0
                    : (l - y) * Math.min(clockOf(s)[1], clockOf(e)[1]) * ONE / 32;
            long rise = arrival(s, feed, c, late, 0);
            long fall = arrival(s, feed, c, late, 1);
            if (!late) {
                return Math.min(rise, fall) + ls * y * ONE / 32 - le * l * ONE / 32 - unsure - (out ? 0 : ONE / 2)
                        + credit;
            }
            int ps = clockOf(s)[0];
            int pe = clockOf(e)[0];
            int gap = 1;
            for (int g = 1; g <= pe; g++) {
                gap = ps % g == 0 && pe % g == 0 ? g : gap;
            }
            int w = winner(s, e);
            gap += w < 0 ? 0 : (rules.get(w)[0] - 1) * pe;
            return gap * ONE - unsure - (out ? 0 : ONE) + le * y * ONE / 32 - ls * l * ONE / 32 + credit
                    - Math.max(rise, fall);
        }

        long borrow(int latch, int c) {
            String key = "b" + latch + "/" + c;
            if (!memo.containsKey(key)) {
                long lack = 0;
                for (int s = 0; s < nodes.size(); s++) {
                    lack = checked(s, latch) ? Math.max(lack, -raw(s, latch, c, true)) : lack;
                }
                memo.put(key, Math.min(lack, clockOf(latch)[0] * ONE / 2));
            }
            return memo.get(key);
        }

        long left(int s, int e, int c, boolean late) {
            if (!checked(s, e)) {
                return FREE;
            }
            long left = raw(s, e, c, late);
            if (late && nodes.get(e)[0] == 7 && left < 0) {
                left = Math.min(0, left + borrow(e, c));
            }
            return left;
        }

        long leftAt(int e, int c, boolean late) {
            long least = FREE;
            for (int s = 0; s < nodes.size(); s++) {
                least = Math.min(least, left(s, e, c, late));
            }
            return least;
        }

        long least(boolean late) {
            long least = FREE;
            for (int e = 0; e < nodes.size(); e++) {
                for (int c = 0; c < corners.size(); c++) {
                    least = Math.min(least, isEnd(e) ? leftAt(e, c, late) : FREE);
                }
            }
            return least;
        }

        int worst(int e, int back) {
            int start = -1;
            for (int s = nodes.size() - 1; s >= 0; s--) {
                if (checked(s, e) && (start < 0 || left(s, e, 0, true) <= left(start, e, 0, true))) {
                    start = s;
                }
            }
            if (start < 0) {
                return -1;
            }
            int at = nodes.get(e)[1];
            int edge = arrival(start, at, 0, true, 0) >= arrival(start, at, 0, true, 1) ? 0 : 1;
            for (int i = 0; i < back; i++) {
                if (at == start) {
                    return -1;
                }
                int[] node = nodes.get(at);
                long want = arrival(start, at, 0, true, edge) - takes(at, edge == 0);
                int next = -1;
                int by = -1;
                for (int f = 2; f >= 1; f--) {
                    int[] makers = makers(node[0], edge);
                    for (int m = makers.length - 1; m >= 0; m--) {
                        Long a = node[f] < 0 ? null : arrival(start, node[f], 0, true, makers[m]);
                        if (a != null && a == want) {
                            next = node[f];
                            by = makers[m];
                        }
                    }
                }
                at = next;
                edge = by;
            }
            return at;
        }

        long many(int what) {
            switch (what) {
                case 0: return clocks.size();
                case 1: return corners.size();
                case 2: return nodes.size();
                case 3: return rules.size();
                case 9: return signed ? 1 : 0;
                case 10: return knocks;
                default: return what == 5 || what == 6 ? inNeed(what == 5) : pairs(what);
            }
        }

        long inNeed(boolean late) {
            int count = 0;
            for (int e = 0; e < nodes.size(); e++) {
                boolean need = false;
                for (int c = 0; c < corners.size() && isEnd(e); c++) {
                    need |= leftAt(e, c, late) < 0;
                }
                count += need ? 1 : 0;
            }
            return count;
        }

        long pairs(int what) {
            int count = 0;
            for (int s = 0; s < nodes.size(); s++) {
                for (int e = 0; e < nodes.size(); e++) {
                    boolean crosses = comes(s, e) && clockOf(s)[3] != clockOf(e)[3];
                    boolean safe = crosses && nodes.get(s)[0] == 6 && nodes.get(e)[0] == 6 && nodes.get(e)[1] == s;
                    count += (what == 4 ? checked(s, e) : what == 7 ? crosses : safe) ? 1 : 0;
                }
            }
            return count;
        }

        long wouldLeave(int n, int size) {
            int before = nodes.get(n)[4];
            nodes.get(n)[4] = size;
            memo.clear();
            long least = least(true);
            nodes.get(n)[4] = before;
            memo.clear();
            return least;
        }

        int best() {
            int best = -1;
            long greatest = least(true);
            for (int number = 0; number < 4 * nodes.size(); number++) {
                if (number % 4 < 3) {
                    long would = wouldLeave(number / 4, SIZES[number % 4]);
                    if (would > greatest) {
                        greatest = would;
                        best = number;
                    }
                }
            }
            return best;
        }

        boolean isIdle(int c) {
            for (int o = 0; o < corners.size(); o++) {
                boolean noMore = o != c;
                boolean same = true;
                for (int e = 0; e < nodes.size(); e++) {
                    for (int k = 0; k < 2 && isEnd(e); k++) {
                        noMore &= leftAt(e, o, k == 0) <= leftAt(e, c, k == 0);
                        same &= leftAt(e, o, k == 0) == leftAt(e, c, k == 0);
                    }
                }
                if (noMore && (!same || c > o)) {
                    return true;
                }
            }
            return false;
        }

        int ofNode(int n, int what) {
            if (what == 5) {
                int times = 0;
                for (int[] m : nodes) {
                    times += (m[1] == n ? 1 : 0) + (m[2] == n ? 1 : 0);
                }
                return times;
            }
            return nodes.get(n)[what];
        }

        long digest() {
            long d = 9604;
            for (int what = 0; what < 11; what++) {
                d = d * 31 + many(what);
            }
            for (int[] clock : clocks) {
                for (int what = 0; what < 5; what++) {
                    d = d * 31 + clock[what];
                }
            }
            for (int n = 0; n < nodes.size(); n++) {
                for (int what = 0; what < 7; what++) {
                    d = d * 31 + ofNode(n, what == 6 ? 6 : what);
                }
                d = d * 31 + 16 * loadQuarters(n);
                if (isEnd(n)) {
                    d = d * 31 + 64 * leftAt(n, 0, true) / ONE;
                    d = d * 31 + 64 * leftAt(n, 0, false) / ONE;
                    d = d * 31 + worst(n, 0);
                }
            }
            return d * 31 + best();
        }
    }

    private static final class Run {
        final int number;
        final SlackHall x = new SlackHall();
        final Told t = new Told();
        final StringBuilder calls = new StringBuilder();
        long seed;
        boolean isBad;

        Run(int number) {
            this.number = number;
            seed = number * 7919L + 17;
        }

        int pick(int from, int to) {
            seed = seed * 6364136223846793005L + 1442695040888963407L;
            return from + (int) ((seed >>> 33) % (to - from + 1));
        }

        /** Mostly within the bounds, now and then just outside, or far. */
        int wild(int from, int to) {
            int dice = pick(0, 59);
            if (dice == 0) {
                return from - 1;
            }
            if (dice == 1) {
                return to + 1;
            }
            if (dice == 2) {
                return pick(0, 1) == 0 ? Integer.MIN_VALUE : Integer.MAX_VALUE;
            }
            return from > to ? from : pick(from, to);
        }

        int node() {
            return wild(0, t.nodes.size() - 1);
        }

        int start() {
            int n = node();
            for (int i = 0; i < 6 && pick(0, 9) > 0 && n >= 0 && n < t.nodes.size() && !t.isStart(n); i++) {
                n = node();
            }
            return n;
        }

        int end() {
            int n = node();
            for (int i = 0; i < 6 && pick(0, 9) > 0 && n >= 0 && n < t.nodes.size() && !t.isEnd(n); i++) {
                n = node();
            }
            return n;
        }

        boolean has(int n) {
            return n >= 0 && n < t.nodes.size();
        }

        static boolean in(int v, int from, int to) {
            return v >= from && v <= to;
        }

        void due(String call, Object got, Object want) {
            asked++;
            calls.append(call).append(" -> ").append(got).append('\n');
            if (!got.equals(want)) {
                wrong++;
                isBad = true;
                System.out.println("run " + number + ": " + call + " answered " + got + ", due is " + want);
            }
        }
    }

    private interface Ask {
        Object get();
    }

    private static Object answer(Ask ask) {
        try {
            return ask.get();
        } catch (RuntimeException e) {
            return e.getClass().getSimpleName();
        }
    }

    private static Object whole(long v) {
        return (int) v;
    }

    private static Object number(long v) {
        return v / (double) ONE;
    }

    private static final String STATE = "IllegalStateException";
    private static final String INDEX = "IndexOutOfBoundsException";
    private static final String ARGUMENT = "IllegalArgumentException";

    private static void tell(Run r) {
        r.t.memo.clear();
        switch (r.pick(0, 13)) {
            case 0: tellClock(r); break;
            case 1: tellDivide(r); break;
            case 2: tellCorner(r); break;
            case 3: case 4: case 5: case 6: tellNode(r); break;
            case 7: case 8: tellFeed(r); break;
            case 9: tellSize(r); break;
            case 10: tellWire(r); break;
            case 11: tellSkew(r); break;
            case 12: tellException(r); break;
            default: tellSign(r);
        }
    }

    private static void tellClock(Run r) {
        int p = r.number % 3 == 0 ? r.wild(4, 12) : r.wild(4, 40);
        int l = r.wild(0, 40);
        int u = r.wild(0, 20);
        int g = r.pick(0, 2) > 0 ? 0 : r.wild(0, 1);
        Object want;
        if (r.t.signed || r.t.clocks.size() == 4) {
            want = STATE;
        } else if (!Run.in(p, 4, 40) || !Run.in(l, 0, 40) || !Run.in(u, 0, 20) || !Run.in(g, 0, 1)) {
            want = ARGUMENT;
        } else {
            want = r.t.clocks.size();
            r.t.clocks.add(new int[] {p, l, u, g, r.t.clocks.size()});
        }
        r.due("clock(" + p + ", " + l + ", " + u + ", " + g + ")", answer(() -> r.x.clock(p, l, u, g)), want);
    }

    private static void tellDivide(Run r) {
        int c = r.wild(0, r.t.clocks.size() - 1);
        int b = r.wild(2, 4);
        int l = r.wild(0, 20);
        Object want;
        if (r.t.signed || r.t.clocks.size() == 4) {
            want = STATE;
        } else if (!Run.in(c, 0, r.t.clocks.size() - 1)) {
            want = INDEX;
        } else if (!Run.in(b, 2, 4) || !Run.in(l, 0, 20)) {
            want = ARGUMENT;
        } else {
            int[] o = r.t.clocks.get(c);
            want = r.t.clocks.size();
            r.t.clocks.add(new int[] {o[0] * b, o[1] + l, o[2], o[3], o[4]});
        }
        r.due("divide(" + c + ", " + b + ", " + l + ")", answer(() -> r.x.divide(c, b, l)), want);
    }

    private static void tellCorner(Run r) {
        int l = r.wild(8, 16);
        int e = r.wild(1, 8);
        Object want;
        if (r.t.signed || r.t.corners.size() == 3) {
            want = STATE;
        } else if (!Run.in(l, 8, 16) || !Run.in(e, 1, 8)) {
            want = ARGUMENT;
        } else {
            want = r.t.corners.size();
            r.t.corners.add(new int[] {l, e});
        }
        r.due("corner(" + l + ", " + e + ")", answer(() -> r.x.corner(l, e)), want);
    }

    private static void tellNode(Run r) {
        // Each third run has many LATCHES behind few STARTS, so that much is lent, and to several STARTS at once.
        int kind = r.t.nodes.size() < 3 ? r.wild(6, 6) : r.number % 3 == 0 ? r.wild(3, 8) : r.wild(0, 8);
        int last = r.t.nodes.size() - 1;
        int one = r.number % 3 == 0 && r.pick(0, 1) == 0 ? r.wild(Math.max(0, last - 2), last) : r.node();
        int other = r.node();
        int clock = r.wild(0, r.t.clocks.size() - 1);
        boolean feeds1 = Run.in(kind, 1, 5) || kind == 7 || kind == 8;
        boolean feeds2 = Run.in(kind, 3, 5);
        boolean clocked = kind == 0 || Run.in(kind, 6, 8);
        Object want;
        if (r.t.signed || r.t.nodes.size() == 16) {
            want = STATE;
        } else if (feeds1 && !r.has(one) || feeds2 && !r.has(other)
                || clocked && !Run.in(clock, 0, r.t.clocks.size() - 1)) {
            want = INDEX;
        } else if (!Run.in(kind, 0, 8) || feeds1 && r.t.nodes.get(one)[0] == 8
                || feeds2 && r.t.nodes.get(other)[0] == 8) {
            want = ARGUMENT;
        } else {
            want = r.t.nodes.size();
            r.t.nodes.add(new int[] {kind, feeds1 ? one : -1, feeds2 ? other : -1, clocked ? clock : -1, 1, 4, 0});
        }
        r.due("node(" + kind + ", " + one + ", " + other + ", " + clock + ")",
                answer(() -> r.x.node(kind, one, other, clock)), want);
    }

    private static void tellFeed(Run r) {
        int flop = r.end();
        int node = r.node();
        Object want;
        if (r.t.signed) {
            want = STATE;
        } else if (!r.has(flop) || !r.has(node)) {
            want = INDEX;
        } else if (r.t.nodes.get(flop)[0] != 6 || r.t.nodes.get(node)[0] == 8) {
            want = ARGUMENT;
        } else {
            want = r.t.nodes.get(flop)[1];
            r.t.nodes.get(flop)[1] = node;
        }
        r.due("feed(" + flop + ", " + node + ")", answer(() -> r.x.feed(flop, node)), want);
    }

    private static void tellSize(Run r) {
        int node = r.node();
        int size = r.wild(1, 4);
        Object want;
        if (r.t.signed) {
            want = STATE;
        } else if (!r.has(node)) {
            want = INDEX;
        } else if (size != 1 && size != 2 && size != 4) {
            want = ARGUMENT;
        } else {
            want = r.t.nodes.get(node)[4];
            r.t.nodes.get(node)[4] = size;
        }
        r.due("size(" + node + ", " + size + ")", answer(() -> r.x.size(node, size)), want);
    }

    private static void tellWire(Run r) {
        int node = r.node();
        int q = r.pick(0, 1) == 0 ? r.wild(0, 80) : r.pick(0, 12);
        Object want;
        if (r.t.signed) {
            want = STATE;
        } else if (!r.has(node)) {
            want = INDEX;
        } else if (!Run.in(q, 0, 80)) {
            want = ARGUMENT;
        } else {
            r.t.nodes.get(node)[5] = q;
            want = whole(r.t.loadQuarters(node) / 4);
        }
        r.due("wire(" + node + ", " + q + ")", answer(() -> r.x.wire(node, q)), want);
    }

    private static void tellSkew(Run r) {
        int node = r.end();
        int q = r.wild(0, 20);
        Object want;
        if (r.t.signed) {
            want = STATE;
        } else if (!r.has(node)) {
            want = INDEX;
        } else if (!Run.in(r.t.nodes.get(node)[0], 6, 7) || !Run.in(q, 0, 20)) {
            want = ARGUMENT;
        } else {
            want = r.t.nodes.get(node)[6];
            r.t.nodes.get(node)[6] = q;
        }
        r.due("skew(" + node + ", " + q + ")", answer(() -> r.x.skew(node, q)), want);
    }

    private static void tellException(Run r) {
        if (r.pick(0, 2) > 0) {
            return; // seldom, so that much stays CHECKED
        }
        int sort = r.pick(0, 2) == 0 ? r.wild(0, 4) : r.pick(2, 4);
        int from = r.pick(0, 2) == 0 ? -1 : r.start();
        int to = r.pick(0, 2) == 0 && sort != 0 ? -1 : r.end();
        Object want;
        if (r.t.signed || r.t.rules.size() == 6) {
            want = STATE;
        } else if (from != -1 && !r.has(from) || to != -1 && !r.has(to)) {
            want = INDEX;
        } else if (sort != 0 && !Run.in(sort, 2, 4) || from != -1 && !r.t.isStart(from)
                || to != -1 && !r.t.isEnd(to)) {
            want = ARGUMENT;
        } else {
            want = r.t.rules.size();
            r.t.rules.add(new int[] {sort, from, to});
        }
        r.due("exception(" + sort + ", " + from + ", " + to + ")", answer(() -> r.x.exception(sort, from, to)), want);
    }

    private static void tellSign(Run r) {
        if (r.pick(0, 1) == 0) {
            r.t.knocks++;
            r.due("knock()", r.x.knock(), r.t.knocks);
            return;
        }
        boolean is = r.pick(0, 5) == 0;
        boolean was = r.t.signed;
        r.t.signed = is;
        r.due("sign(" + is + ")", r.x.sign(is), was);
    }

    private static void ask(Run r) {
        Told t = r.t;
        int start = r.start();
        int end = r.end();
        int node = r.node();
        int corner = r.wild(0, t.corners.size() - 1);
        boolean late = r.pick(0, 2) > 0;
        boolean rise = r.pick(0, 1) == 0;
        boolean hasCorner = Run.in(corner, 0, t.corners.size() - 1);
        boolean pair = r.has(start) && r.has(end);
        boolean fit = pair && t.isStart(start) && t.isEnd(end);
        String at = "(" + start + ", " + end + ")";
        switch (r.pick(0, 11)) {
            case 0: {
                Object want = !r.has(start) || !r.has(node) || !hasCorner ? INDEX : !t.isStart(start) ? ARGUMENT : null;
                if (want == null) {
                    Long a = t.arrival(start, node, corner, late, rise ? 0 : 1);
                    want = a == null ? (Object) (-1.0) : number(a);
                }
                r.due("arrival(" + start + ", " + node + ", " + corner + ", " + late + ", " + rise + ")",
                        answer(() -> r.x.arrival(start, node, corner, late, rise)), want);
                break;
            }
            case 1:
                r.due("winner" + at, answer(() -> r.x.winner(start, end)),
                        !pair ? INDEX : !fit ? ARGUMENT : (Object) t.winner(start, end));
                break;
            case 2:
                r.due("left" + at + corner + late, answer(() -> r.x.left(start, end, corner, late)),
                        !pair || !hasCorner ? INDEX : !fit ? ARGUMENT : number(t.left(start, end, corner, late)));
                break;
            case 3:
                r.due("leftAt(" + end + ", " + corner + ", " + late + ")",
                        answer(() -> r.x.leftAt(end, corner, late)),
                        !r.has(end) || !hasCorner ? INDEX : !t.isEnd(end) ? ARGUMENT
                                : number(t.leftAt(end, corner, late)));
                break;
            case 4:
                r.due("borrow(" + end + ", " + corner + ")", answer(() -> r.x.borrow(end, corner)),
                        !r.has(end) || !hasCorner ? INDEX : t.nodes.get(end)[0] != 7 ? ARGUMENT
                                : number(t.borrow(end, corner)));
                break;
            case 5:
                r.due("ways" + at, answer(() -> r.x.ways(start, end)),
                        !pair ? INDEX : !fit ? ARGUMENT : whole(t.waysToEnd(start, end)));
                break;
            case 6: {
                int back = r.pick(0, 1) == 0 ? r.pick(0, 4) : r.wild(0, 15);
                r.due("worst(" + end + ", " + back + ")", answer(() -> r.x.worst(end, back)),
                        !r.has(end) ? INDEX : !t.isEnd(end) || !Run.in(back, 0, 15) ? ARGUMENT
                                : (Object) t.worst(end, back));
                break;
            }
            case 7: {
                int what = r.wild(0, 10);
                r.due("many(" + what + ")", answer(() -> r.x.many(what)),
                        !Run.in(what, 0, 10) ? ARGUMENT : whole(t.many(what)));
                break;
            }
            case 8:
                r.due("least(" + late + ")", r.x.least(late), number(t.least(late)));
                break;
            case 9: {
                int size = r.wild(1, 4);
                r.due("wouldLeave(" + node + ", " + size + ")", answer(() -> r.x.wouldLeave(node, size)),
                        !r.has(node) ? INDEX : size != 1 && size != 2 && size != 4 ? ARGUMENT
                                : number(t.wouldLeave(node, size)));
                break;
            }
            case 10:
                r.due("isIdle(" + corner + ")", answer(() -> r.x.isIdle(corner)),
                        !hasCorner ? INDEX : (Object) t.isIdle(corner));
                break;
            default: askOfOne(r, node);
        }
    }

    private static void askOfOne(Run r, int node) {
        Told t = r.t;
        switch (r.pick(0, 5)) {
            case 0: {
                int clock = r.wild(0, t.clocks.size() - 1);
                int what = r.wild(0, 4);
                r.due("ofClock(" + clock + ", " + what + ")", answer(() -> r.x.ofClock(clock, what)),
                        !Run.in(clock, 0, t.clocks.size() - 1) ? INDEX : !Run.in(what, 0, 4) ? ARGUMENT
                                : (Object) t.clocks.get(clock)[what]);
                break;
            }
            case 1: {
                int what = r.wild(0, 6);
                r.due("ofNode(" + node + ", " + what + ")", answer(() -> r.x.ofNode(node, what)),
                        !r.has(node) ? INDEX : !Run.in(what, 0, 6) ? ARGUMENT : (Object) t.ofNode(node, what));
                break;
            }
            case 2:
                r.due("load(" + node + ")", answer(() -> r.x.load(node)),
                        !r.has(node) ? INDEX : (Object) (t.loadQuarters(node) / 4.0));
                break;
            case 3: {
                boolean rise = r.pick(0, 1) == 0;
                r.due("takes(" + node + ", " + rise + ")", answer(() -> r.x.takes(node, rise)),
                        !r.has(node) ? INDEX : number(t.takes(node, rise)));
                break;
            }
            case 4:
                r.due("best()", r.x.best(), t.best());
                break;
            default:
                r.due("digest()", r.x.digest(), t.digest());
        }
    }

    private static void run(int number) {
        Run r = new Run(number);
        for (int call = 0; call < 510 && !r.isBad; call++) {
            int told = call < 60 ? 8 : 3;
            if (r.pick(0, 9) < told) {
                tell(r);
            } else {
                ask(r);
            }
        }
        r.due("digest()", r.x.digest(), r.t.digest());
        if (r.isBad) {
            System.out.println(r.calls);
        }
    }

    public static void main(String[] args) {
        int runs = args.length > 0 ? Integer.parseInt(args[0]) : 150;
        for (int number = 1; number <= runs && wrong == 0; number++) {
            run(number);
        }
        System.out.println(asked + " asked in " + runs + " runs, " + wrong + " wrong");
        if (wrong != 0) {
            System.exit(1);
        }
    }
}
