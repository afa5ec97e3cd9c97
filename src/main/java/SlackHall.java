/**
 * Whether a chip is in time.
 *
 * <p>The words in comments that stand in capitals are those of the document (../shared/DOC.md).
 */
public final class SlackHall {

    private static final int NONE = -1;

    // A whole number, since LANGUAGE.md lets no constant be a double; it is 99999.0 wherever it is answered.
    private static final int FREE = 99999;

    private static final int MOST_CLOCKS = 4;
    private static final int MOST_CORNERS = 3;
    private static final int MOST_NODES = 16;
    private static final int MOST_RULES = 6;

    private static final int IN = 0;
    private static final int BUF = 1;
    private static final int INV = 2;
    private static final int AND = 3;
    private static final int NOR = 4;
    private static final int XOR = 5;
    private static final int FLOP = 6;
    private static final int LATCH = 7;
    private static final int OUT = 8;

    private static final int RISE = 0;
    private static final int FALL = 1;
    private static final int EDGES = 2;
    private static final int SPOTS = MOST_NODES * EDGES;

    private final Chip chip;
    private final Analysis analysis;
    private boolean isSigned;
    private int refusals;

    public SlackHall() {
        chip = new Chip();
        analysis = new Analysis(chip);
    }

    // ---- what is told

    public int clock(int period, int latency, int unsure, int group)
            throws IllegalStateException, IllegalArgumentException {
        mustBeOpen(chip.clockCount < MOST_CLOCKS);
        mustFit(isIn(period, 4, 40) && isIn(latency, 0, 40) && isIn(unsure, 0, 20) && isIn(group, 0, 1));
        analysis.forget();
        return chip.addClock(period, latency, unsure, group, chip.clockCount);
    }

    public int divide(int clock, int by, int latency)
            throws IllegalStateException, IndexOutOfBoundsException, IllegalArgumentException {
        mustBeOpen(chip.clockCount < MOST_CLOCKS);
        mustExist(chip.hasClock(clock));
        mustFit(isIn(by, 2, 4) && isIn(latency, 0, 20));
        analysis.forget();
        Clock other = chip.clocks[clock];
        return chip.addClock(other.period * by, other.latency + latency, other.unsure, other.group, other.root);
    }

    public int corner(int late, int early) throws IllegalStateException, IllegalArgumentException {
        mustBeOpen(chip.cornerCount < MOST_CORNERS);
        mustFit(isIn(late, 8, 16) && isIn(early, 1, 8));
        analysis.forget();
        return chip.addCorner(late, early);
    }

    public int node(int kind, int one, int other, int clock)
            throws IllegalStateException, IndexOutOfBoundsException, IllegalArgumentException {
        mustBeOpen(chip.nodeCount < MOST_NODES);
        boolean hasOne = isIn(kind, BUF, XOR) || kind == LATCH || kind == OUT;
        boolean hasOther = isIn(kind, AND, XOR);
        boolean hasClock = kind == IN || isIn(kind, FLOP, OUT);
        mustExist((!hasOne || chip.hasNode(one)) && (!hasOther || chip.hasNode(other))
                && (!hasClock || chip.hasClock(clock)));
        mustFit(isIn(kind, IN, OUT) && (!hasOne || chip.nodes[one].kind != OUT)
                && (!hasOther || chip.nodes[other].kind != OUT));
        analysis.forget();
        return chip.addNode(kind, hasOne ? one : NONE, hasOther ? other : NONE, hasClock ? clock : NONE);
    }

    public int feed(int flop, int node)
            throws IllegalStateException, IndexOutOfBoundsException, IllegalArgumentException {
        mustBeOpen(true);
        mustExist(chip.hasNode(flop) && chip.hasNode(node));
        mustFit(chip.nodes[flop].kind == FLOP && chip.nodes[node].kind != OUT);
        analysis.forget();
        int before = chip.nodes[flop].one;
        chip.nodes[flop].one = node;
        return before;
    }

    public int size(int node, int size)
            throws IllegalStateException, IndexOutOfBoundsException, IllegalArgumentException {
        mustBeOpen(true);
        mustExist(chip.hasNode(node));
        mustFit(isSize(size));
        analysis.forget();
        int before = chip.nodes[node].size;
        chip.nodes[node].size = size;
        return before;
    }

    public int wire(int node, int quarters)
            throws IllegalStateException, IndexOutOfBoundsException, IllegalArgumentException {
        mustBeOpen(true);
        mustExist(chip.hasNode(node));
        mustFit(isIn(quarters, 0, 80));
        analysis.forget();
        chip.nodes[node].wire = quarters * 0.25f;
        return (int) analysis.delays().loads[node];
    }

    public int skew(int node, int quarters)
            throws IllegalStateException, IndexOutOfBoundsException, IllegalArgumentException {
        mustBeOpen(true);
        mustExist(chip.hasNode(node));
        mustFit((chip.nodes[node].kind == FLOP || chip.nodes[node].kind == LATCH) && isIn(quarters, 0, 20));
        analysis.forget();
        int before = chip.nodes[node].skew;
        chip.nodes[node].skew = quarters;
        return before;
    }

    public int exception(int sort, int from, int to)
            throws IllegalStateException, IndexOutOfBoundsException, IllegalArgumentException {
        mustBeOpen(chip.ruleCount < MOST_RULES);
        mustExist((from == NONE || chip.hasNode(from)) && (to == NONE || chip.hasNode(to)));
        mustFit((sort == 0 || isIn(sort, 2, 4)) && (from == NONE || chip.nodes[from].isStart())
                && (to == NONE || chip.nodes[to].isEndKind()));
        analysis.forget();
        return chip.addRule(sort, from, to);
    }

    public boolean sign(boolean is) {
        boolean was = isSigned;
        isSigned = is;
        return was;
    }

    public int knock() {
        refusals++;
        return refusals;
    }

    // ---- what is asked

    public int ofClock(int clock, int what) throws IndexOutOfBoundsException, IllegalArgumentException {
        mustExist(chip.hasClock(clock));
        mustFit(isIn(what, 0, 4));
        return chip.clocks[clock].tell(what);
    }

    public int ofNode(int node, int what) throws IndexOutOfBoundsException, IllegalArgumentException {
        mustExist(chip.hasNode(node));
        mustFit(isIn(what, 0, 6));
        return what == 5 ? chip.timesFeed(node) : chip.nodes[node].tell(what);
    }

    public double load(int node) throws IndexOutOfBoundsException {
        mustExist(chip.hasNode(node));
        return analysis.delays().loads[node];
    }

    public double takes(int node, boolean isRise) throws IndexOutOfBoundsException {
        mustExist(chip.hasNode(node));
        return analysis.delays().ofEdge(node, isRise ? RISE : FALL);
    }

    public double arrival(int start, int node, int corner, boolean isLate, boolean isRise)
            throws IndexOutOfBoundsException, IllegalArgumentException {
        mustExist(chip.hasNode(start) && chip.hasNode(node) && chip.hasCorner(corner));
        mustFit(chip.nodes[start].isStart());
        return analysis.timing(corner, isLate).arrivalOf(start, node, isRise ? RISE : FALL);
    }

    public int winner(int start, int end) throws IndexOutOfBoundsException, IllegalArgumentException {
        mustBePair(start, end);
        return chip.winnerOf(start, end);
    }

    public double left(int start, int end, int corner, boolean isLate)
            throws IndexOutOfBoundsException, IllegalArgumentException {
        mustExist(chip.hasCorner(corner));
        mustBePair(start, end);
        return analysis.timing(corner, isLate).leftOf(start, end);
    }

    public double leftAt(int end, int corner, boolean isLate)
            throws IndexOutOfBoundsException, IllegalArgumentException {
        mustExist(chip.hasNode(end) && chip.hasCorner(corner));
        mustFit(chip.nodes[end].isEndKind());
        return analysis.timing(corner, isLate).leastAt(end);
    }

    public double borrow(int latch, int corner) throws IndexOutOfBoundsException, IllegalArgumentException {
        mustExist(chip.hasNode(latch) && chip.hasCorner(corner));
        mustFit(chip.nodes[latch].kind == LATCH);
        return analysis.timing(corner, true).borrows[latch];
    }

    public int ways(int start, int end) throws IndexOutOfBoundsException, IllegalArgumentException {
        mustBePair(start, end);
        int last = chip.nodes[end].one;
        return last == NONE ? 0 : analysis.paths().waysTo(start, last);
    }

    public int worst(int end, int back) throws IndexOutOfBoundsException, IllegalArgumentException {
        mustExist(chip.hasNode(end));
        mustFit(chip.nodes[end].isEndKind() && isIn(back, 0, 15));
        return analysis.timing(0, true).worstWay(end, back);
    }

    public int many(int what) throws IllegalArgumentException {
        mustFit(isIn(what, 0, 10));
        switch (what) {
            case 0: return chip.clockCount;
            case 1: return chip.cornerCount;
            case 2: return chip.nodeCount;
            case 3: return chip.ruleCount;
            case 4: return analysis.paths().checkedPairs();
            case 5: return analysis.endsInNeed(true);
            case 6: return analysis.endsInNeed(false);
            case 7: return analysis.paths().crossings(false);
            case 8: return analysis.paths().crossings(true);
            case 9: return isSigned ? 1 : 0;
            default: return refusals;
        }
    }

    public double least(boolean isLate) {
        return analysis.leastOfAll(isLate);
    }

    // ---- what would be (nothing is changed)

    public double wouldLeave(int node, int size) throws IndexOutOfBoundsException, IllegalArgumentException {
        mustExist(chip.hasNode(node));
        mustFit(isSize(size));
        return analysis.leastWith(node, size);
    }

    public int best() {
        return analysis.bestChange();
    }

    public boolean isIdle(int corner) throws IndexOutOfBoundsException {
        mustExist(chip.hasCorner(corner));
        for (int other = 0; other < chip.cornerCount; other++) {
            if (other != corner && analysis.makesIdle(other, corner)) {
                return true;
            }
        }
        return false;
    }

    public long digest() {
        long d = 9604;
        for (int what = 0; what <= 10; what++) {
            d = d * 31 + many(what);
        }
        for (int clock = 0; clock < chip.clockCount; clock++) {
            for (int what = 0; what <= 4; what++) {
                d = d * 31 + ofClock(clock, what);
            }
        }
        for (int node = 0; node < chip.nodeCount; node++) {
            d = digestNode(d, node);
        }
        return d * 31 + analysis.bestChange();
    }

    private long digestNode(long before, int node) {
        long d = before;
        for (int what = 0; what <= 6; what++) {
            d = d * 31 + ofNode(node, what);
        }
        d = d * 31 + (long) (64.0 * load(node));
        if (chip.nodes[node].isEndKind()) {
            d = d * 31 + (long) (64.0 * leftAt(node, 0, true));
            d = d * 31 + (long) (64.0 * leftAt(node, 0, false));
            d = d * 31 + worst(node, 0);
        }
        return d;
    }

    // ---- what must hold before a call goes on

    private void mustBeOpen(boolean hasRoom) {
        if (isSigned || !hasRoom) {
            throw new IllegalStateException("the chip is signed, or there is no room");
        }
    }

    private static void mustExist(boolean exists) {
        if (!exists) {
            throw new IndexOutOfBoundsException("there is no such clock, corner or node");
        }
    }

    private static void mustFit(boolean fits) {
        if (!fits) {
            throw new IllegalArgumentException("not what the document asks for");
        }
    }

    private void mustBePair(int start, int end) {
        mustExist(chip.hasNode(start) && chip.hasNode(end));
        mustFit(chip.nodes[start].isStart() && chip.nodes[end].isEndKind());
    }

    private static boolean isIn(int value, int from, int to) {
        return value >= from && value <= to;
    }

    private static boolean isSize(int size) {
        return size == 1 || size == 2 || size == 4;
    }

    private static double smaller(double a, double b) {
        return a <= b ? a : b;
    }

    private static double greater(double a, double b) {
        return a >= b ? a : b;
    }

    /** A CLOCK; LATENCY and UNSURE are kept in quarters, as they are told. */
    private static final class Clock {
        int period;
        int latency;
        int unsure;
        int group;
        int root;

        int tell(int what) {
            switch (what) {
                case 0: return period;
                case 1: return latency;
                case 2: return unsure;
                case 3: return group;
                default: return root;
            }
        }
    }

    /** A CORNER; kept as the factors that it puts on what is late and what is early. */
    private static final class Corner {
        double late = 1.0;
        double early = 1.0;
    }

    /** A NODE; SKEW is kept in quarters, as it is told. */
    private static final class Node {
        int kind;
        int one = NONE;
        int other = NONE;
        int clock = NONE;
        // Never null: a gate, that has no CLOCK, keeps the one of the constructor, at which nothing looks.
        Clock driver;
        int size = 1;
        float wire = 1f;
        int skew;

        Node(Clock driver) {
            this.driver = driver;
        }

        boolean isStart() {
            return kind == IN || kind == FLOP || kind == LATCH;
        }

        boolean isEndKind() {
            return kind == FLOP || kind == LATCH || kind == OUT;
        }

        boolean isGate() {
            return kind >= BUF && kind <= XOR;
        }

        /** LATENCY and SKEW of a START or END. */
        double lag() {
            return (driver.latency + skew) * 0.25;
        }

        boolean makes(int from, int edge) {
            if (kind == XOR) {
                return true;
            }
            boolean turns = kind == INV || kind == NOR;
            return turns ? from != edge : from == edge;
        }

        int tell(int what) {
            switch (what) {
                case 0: return kind;
                case 1: return one;
                case 2: return other;
                case 3: return clock;
                case 4: return size;
                default: return skew;
            }
        }
    }

    /** An EXCEPTION of the document, called a rule here to keep it apart from what Java throws. */
    private static final class Rule {
        int sort;
        int from = NONE;
        int to = NONE;

        boolean fits(int start, int end) {
            return (from == NONE || from == start) && (to == NONE || to == end);
        }

        // A START outweighs an END, and both outweigh either: so the number of both, and then the START, decides.
        int weight() {
            return (sort == 0 ? 4 : 0) + (from == NONE ? 0 : 2) + (to == NONE ? 0 : 1);
        }
    }

    /** What was told. All rows are filled from the first on, so none of their places is ever null. */
    private static final class Chip {
        final Clock[] clocks = new Clock[MOST_CLOCKS];
        final Corner[] corners = new Corner[MOST_CORNERS];
        final Node[] nodes = new Node[MOST_NODES];
        final Rule[] rules = new Rule[MOST_RULES];
        int clockCount;
        int cornerCount = 1;
        int nodeCount;
        int ruleCount;

        Chip() {
            for (int i = 0; i < MOST_CLOCKS; i++) {
                clocks[i] = new Clock();
            }
            for (int i = 0; i < MOST_CORNERS; i++) {
                corners[i] = new Corner();
            }
            for (int i = 0; i < MOST_NODES; i++) {
                nodes[i] = new Node(clocks[0]);
            }
            for (int i = 0; i < MOST_RULES; i++) {
                rules[i] = new Rule();
            }
        }

        boolean hasClock(int number) {
            return number >= 0 && number < clockCount;
        }

        boolean hasCorner(int number) {
            return number >= 0 && number < cornerCount;
        }

        boolean hasNode(int number) {
            return number >= 0 && number < nodeCount;
        }

        int addClock(int period, int latency, int unsure, int group, int root) {
            Clock clock = clocks[clockCount];
            clock.period = period;
            clock.latency = latency;
            clock.unsure = unsure;
            clock.group = group;
            clock.root = root;
            return clockCount++;
        }

        int addCorner(int late, int early) {
            corners[cornerCount].late = late * 0.125;
            corners[cornerCount].early = early * 0.125;
            return cornerCount++;
        }

        int addNode(int kind, int one, int other, int clock) {
            Node node = nodes[nodeCount];
            node.kind = kind;
            node.one = one;
            node.other = other;
            node.clock = clock;
            if (hasClock(clock)) {
                node.driver = clocks[clock];
            }
            return nodeCount++;
        }

        int addRule(int sort, int from, int to) {
            Rule rule = rules[ruleCount];
            rule.sort = sort;
            rule.from = from;
            rule.to = to;
            return ruleCount++;
        }

        int timesFeed(int node) {
            int times = 0;
            for (int i = 0; i < nodeCount; i++) {
                times += (nodes[i].one == node ? 1 : 0) + (nodes[i].other == node ? 1 : 0);
            }
            return times;
        }

        int winnerOf(int start, int end) {
            int winner = NONE;
            int most = 0;
            for (int i = 0; i < ruleCount; i++) {
                if (rules[i].fits(start, end) && rules[i].weight() >= most) {
                    winner = i;
                    most = rules[i].weight();
                }
            }
            return winner;
        }

        boolean isOneGroup(int start, int end) {
            return nodes[start].driver.group == nodes[end].driver.group;
        }

        int gapOf(int start, int end, int multiple) {
            int own = nodes[end].driver.period;
            return greatestDivisor(nodes[start].driver.period, own) + (multiple - 1) * own;
        }

        // The numbers halve at least at each second step, so 64 steps are far more than ints can need.
        private static int greatestDivisor(int one, int other) {
            int a = one;
            int b = other;
            for (int step = 0; step < 64 && b != 0; step++) {
                int rest = a % b;
                a = b;
                b = rest;
            }
            return a;
        }
    }

    /** What hangs on neither SIZES nor CORNERS: which START comes where, in how many WAYS, and what is CHECKED. */
    private static final class Paths {
        private final Chip chip;
        private final int[] reach = new int[MOST_NODES];
        private final int[] checked = new int[MOST_NODES];
        private final int[] counts = new int[MOST_NODES * MOST_NODES];
        private final int[] gaps = new int[MOST_NODES * MOST_NODES];
        boolean isFresh;

        Paths(Chip chip) {
            this.chip = chip;
        }

        // The FEEDS of a gate have smaller numbers than itself, so one pass by number meets each after its FEEDS.
        void prepare() {
            if (isFresh) {
                return;
            }
            for (int n = 0; n < chip.nodeCount; n++) {
                Node node = chip.nodes[n];
                for (int start = 0; start < chip.nodeCount; start++) {
                    counts[start * MOST_NODES + n] = 0;
                }
                reach[n] = 0;
                if (node.isStart()) {
                    reach[n] = 1 << n;
                    counts[n * MOST_NODES + n] = 1;
                } else if (node.isGate()) {
                    join(n, node.one);
                    join(n, node.other);
                }
            }
            for (int end = 0; end < chip.nodeCount; end++) {
                check(end);
            }
            isFresh = true;
        }

        private void join(int gate, int feed) {
            if (!chip.hasNode(feed)) {
                return;
            }
            reach[gate] |= reach[feed];
            for (int start = 0; start <= feed; start++) {
                counts[start * MOST_NODES + gate] += counts[start * MOST_NODES + feed];
            }
        }

        private void check(int end) {
            checked[end] = 0;
            for (int start = 0; start < chip.nodeCount; start++) {
                if (comesTo(start, end) && chip.isOneGroup(start, end)) {
                    int winner = chip.winnerOf(start, end);
                    int sort = winner == NONE ? 1 : chip.rules[winner].sort;
                    if (sort != 0) {
                        checked[end] |= 1 << start;
                        gaps[start * MOST_NODES + end] = chip.gapOf(start, end, sort);
                    }
                }
            }
        }

        boolean reaches(int start, int node) {
            return (reach[node] >> start & 1) != 0;
        }

        /** Whether a START has an ARRIVAL at the FEED of an END. */
        boolean comesTo(int start, int end) {
            int feed = chip.nodes[end].one;
            return chip.nodes[end].isEndKind() && feed != NONE && reaches(start, feed);
        }

        boolean isChecked(int start, int end) {
            return (checked[end] >> start & 1) != 0;
        }

        boolean hasCheck(int end) {
            return checked[end] != 0;
        }

        int gapBetween(int start, int end) {
            return gaps[start * MOST_NODES + end];
        }

        int waysTo(int start, int node) {
            return counts[start * MOST_NODES + node];
        }

        int checkedPairs() {
            int pairs = 0;
            for (int end = 0; end < chip.nodeCount; end++) {
                pairs += Integer.bitCount(checked[end]);
            }
            return pairs;
        }

        int crossings(boolean onlySafe) {
            int crossings = 0;
            for (int start = 0; start < chip.nodeCount; start++) {
                for (int end = 0; end < chip.nodeCount; end++) {
                    if (comesTo(start, end) && !chip.isOneGroup(start, end) && (!onlySafe || isSafe(start, end))) {
                        crossings++;
                    }
                }
            }
            return crossings;
        }

        private boolean isSafe(int start, int end) {
            return chip.nodes[start].kind == FLOP && chip.nodes[end].kind == FLOP && chip.nodes[end].one == start;
        }
    }

    /** LOAD and TAKES of each NODE. */
    private static final class Delays {
        private final Chip chip;
        final float[] loads = new float[MOST_NODES];
        private final double[] rises = new double[MOST_NODES];
        boolean isFresh;

        Delays(Chip chip) {
            this.chip = chip;
        }

        void prepare() {
            if (!isFresh) {
                reckon();
                isFresh = true;
            }
        }

        void reckon() {
            for (int n = 0; n < chip.nodeCount; n++) {
                loads[n] = chip.nodes[n].wire;
            }
            for (int n = 0; n < chip.nodeCount; n++) {
                Node node = chip.nodes[n];
                float own = node.kind == OUT ? 2f : 0.5f * node.size;
                burden(node.one, own);
                burden(node.other, own);
            }
            for (int n = 0; n < chip.nodeCount; n++) {
                rises[n] = riseOf(chip.nodes[n], loads[n]);
            }
        }

        private void burden(int feed, float more) {
            if (chip.hasNode(feed)) {
                loads[feed] += more;
            }
        }

        private static double riseOf(Node node, double load) {
            if (node.kind == IN || node.kind == OUT || !isSize(node.size)) {
                return 0.0;
            }
            double rise = unsized(load) / node.size;
            return node.isGate() ? rise : rise + 2.0;
        }

        private static double unsized(double r) {
            if (r <= 4.0) {
                return 1.0 + r * 0.25;
            }
            if (r <= 8.0) {
                return 2.0 + (r - 4.0) * 0.375;
            }
            if (r <= 16.0) {
                return 3.5 + (r - 8.0) * 0.375;
            }
            return 6.5 + (r - 16.0) * 0.5;
        }

        double ofEdge(int node, int edge) {
            return edge == RISE ? rises[node] : 0.75 * rises[node];
        }
    }

    /**
     * ARRIVALS, BORROWS and what is left, for the late or for the early, in one CORNER.
     *
     * <p>A spot is a NODE and an edge of it, in one number.
     */
    private static final class Timing {
        private final Chip chip;
        private final Paths paths;
        private final Delays delays;
        private final boolean isLate;
        private final double[] arrivals = new double[MOST_NODES * SPOTS];
        private final double[] lefts = new double[MOST_NODES * MOST_NODES];
        private final double[] leasts = new double[MOST_NODES];
        final double[] borrows = new double[MOST_NODES];
        boolean isFresh;

        Timing(Chip chip, Paths paths, Delays delays, boolean isLate) {
            this.chip = chip;
            this.paths = paths;
            this.delays = delays;
            this.isLate = isLate;
        }

        // A LATCH is settled on the way, since what starts there needs its BORROW; the FEED of a FLOP may
        // come behind it, so the other ENDS wait until all has arrived.
        void reckon(Corner corner) {
            for (int n = 0; n < chip.nodeCount; n++) {
                Node node = chip.nodes[n];
                borrows[n] = 0.0;
                if (node.kind == LATCH) {
                    settle(n, corner);
                }
                if (node.isStart()) {
                    depart(n, corner);
                } else if (node.isGate()) {
                    pass(n, corner);
                }
            }
            for (int n = 0; n < chip.nodeCount; n++) {
                if (chip.nodes[n].kind == FLOP || chip.nodes[n].kind == OUT) {
                    settle(n, corner);
                }
            }
            isFresh = true;
        }

        private double delayOf(int node, int edge, Corner corner) {
            return (isLate ? corner.late : corner.early) * delays.ofEdge(node, edge);
        }

        private void depart(int start, Corner corner) {
            for (int edge = RISE; edge <= FALL; edge++) {
                arrivals[start * SPOTS + start * EDGES + edge] = borrows[start] + delayOf(start, edge, corner);
            }
        }

        private void pass(int gate, Corner corner) {
            for (int edge = RISE; edge <= FALL; edge++) {
                int spot = gate * EDGES + edge;
                double delay = delayOf(gate, edge, corner);
                for (int start = 0; start < gate; start++) {
                    int source = paths.reaches(start, gate) ? sourceOf(start, spot) : NONE;
                    if (source != NONE) {
                        arrivals[start * SPOTS + spot] = arrivals[start * SPOTS + source] + delay;
                    }
                }
            }
        }

        /** The spot by which the ARRIVAL of a START came to this spot of a gate. */
        private int sourceOf(int start, int spot) {
            Node gate = chip.nodes[spot / EDGES];
            int source = NONE;
            for (int turn = 0; turn < 2; turn++) {
                int feed = turn == 0 ? gate.one : gate.other;
                for (int from = RISE; from <= FALL && feed != NONE; from++) {
                    boolean isWay = paths.reaches(start, feed) && gate.makes(from, spot % EDGES);
                    int rival = feed * EDGES + from;
                    if (isWay && (source == NONE || beats(start, rival, source))) {
                        source = rival;
                    }
                }
            }
            return source;
        }

        private boolean beats(int start, int spot, int before) {
            double own = arrivals[start * SPOTS + spot];
            double other = arrivals[start * SPOTS + before];
            return isLate ? own > other : own < other;
        }

        private void settle(int end, Corner corner) {
            for (int start = 0; start < chip.nodeCount; start++) {
                if (paths.isChecked(start, end)) {
                    lefts[start * MOST_NODES + end] =
                            isLate ? leftForLate(start, end, corner) : leftForEarly(start, end, corner);
                }
            }
            if (isLate && chip.nodes[end].kind == LATCH) {
                lend(end);
            }
            leasts[end] = FREE;
            for (int start = 0; start < chip.nodeCount; start++) {
                leasts[end] = smaller(leasts[end], leftOf(start, end));
            }
        }

        private double leftForLate(int start, int end, Corner corner) {
            Node from = chip.nodes[start];
            Node to = chip.nodes[end];
            double left = paths.gapBetween(start, end);
            left -= to.driver.unsure * 0.25;
            left -= to.kind == OUT ? 0.0 : 1.0;
            left += to.lag() * corner.early;
            left -= from.lag() * corner.late;
            left += credit(from.driver, to.driver, corner);
            int came = start * SPOTS + to.one * EDGES;
            return left - greater(arrivals[came + RISE], arrivals[came + FALL]);
        }

        private double leftForEarly(int start, int end, Corner corner) {
            Node from = chip.nodes[start];
            Node to = chip.nodes[end];
            int came = start * SPOTS + to.one * EDGES;
            double left = smaller(arrivals[came + RISE], arrivals[came + FALL]);
            left += from.lag() * corner.early;
            left -= to.lag() * corner.late;
            left -= to.driver.unsure * 0.25;
            left -= to.kind == OUT ? 0.0 : 0.5;
            return left + credit(from.driver, to.driver, corner);
        }

        private static double credit(Clock one, Clock other, Corner corner) {
            if (one.root != other.root) {
                return 0.0;
            }
            int shared = one.latency <= other.latency ? one.latency : other.latency;
            return (corner.late - corner.early) * (shared * 0.25);
        }

        private void lend(int latch) {
            double lack = 0.0;
            for (int start = 0; start < chip.nodeCount; start++) {
                if (paths.isChecked(start, latch)) {
                    lack = greater(lack, 0.0 - lefts[start * MOST_NODES + latch]);
                }
            }
            borrows[latch] = smaller(lack, 0.5 * chip.nodes[latch].driver.period);
            for (int start = 0; start < chip.nodeCount; start++) {
                int pair = start * MOST_NODES + latch;
                if (paths.isChecked(start, latch) && lefts[pair] < 0.0) {
                    lefts[pair] = smaller(lefts[pair] + borrows[latch], 0.0);
                }
            }
        }

        double arrivalOf(int start, int node, int edge) {
            return paths.reaches(start, node) ? arrivals[start * SPOTS + node * EDGES + edge] : -1.0;
        }

        double leftOf(int start, int end) {
            return paths.isChecked(start, end) ? lefts[start * MOST_NODES + end] : FREE;
        }

        double leastAt(int end) {
            return leasts[end];
        }

        double leastOfEnds() {
            double least = FREE;
            for (int end = 0; end < chip.nodeCount; end++) {
                if (paths.hasCheck(end)) {
                    least = smaller(least, leasts[end]);
                }
            }
            return least;
        }

        int worstWay(int end, int back) {
            int start = worstStart(end);
            int feed = chip.nodes[end].one;
            if (start == NONE || feed == NONE) {
                return NONE;
            }
            boolean isFall = arrivalOf(start, feed, FALL) > arrivalOf(start, feed, RISE);
            int spot = feed * EDGES + (isFall ? FALL : RISE);
            for (int step = 0; step < back && spot != NONE; step++) {
                spot = spot / EDGES == start ? NONE : sourceOf(start, spot);
            }
            return spot == NONE ? NONE : spot / EDGES;
        }

        private int worstStart(int end) {
            int worst = NONE;
            for (int start = 0; start < chip.nodeCount; start++) {
                if (paths.isChecked(start, end) && (worst == NONE || leftOf(start, end) < leftOf(worst, end))) {
                    worst = start;
                }
            }
            return worst;
        }
    }

    /** What is reckoned of a chip, kept until something else is told, and what would be with another SIZE. */
    private static final class Analysis {
        private final Chip chip;
        private final Paths paths;
        private final Delays delays;
        private final Timing[] lates = new Timing[MOST_CORNERS];
        private final Timing[] earlies = new Timing[MOST_CORNERS];
        // A trial has rows of its own, so that what is reckoned of the chip as it is stays good.
        private final Delays trialDelays;
        private final Timing trial;

        Analysis(Chip chip) {
            this.chip = chip;
            paths = new Paths(chip);
            delays = new Delays(chip);
            trialDelays = new Delays(chip);
            trial = new Timing(chip, paths, trialDelays, true);
            for (int corner = 0; corner < MOST_CORNERS; corner++) {
                lates[corner] = new Timing(chip, paths, delays, true);
                earlies[corner] = new Timing(chip, paths, delays, false);
            }
        }

        void forget() {
            paths.isFresh = false;
            delays.isFresh = false;
            for (int corner = 0; corner < MOST_CORNERS; corner++) {
                lates[corner].isFresh = false;
                earlies[corner].isFresh = false;
            }
        }

        Paths paths() {
            paths.prepare();
            return paths;
        }

        Delays delays() {
            delays.prepare();
            return delays;
        }

        Timing timing(int corner, boolean isLate) {
            paths.prepare();
            delays.prepare();
            Timing timing = isLate ? lates[corner] : earlies[corner];
            if (!timing.isFresh) {
                timing.reckon(chip.corners[corner]);
            }
            return timing;
        }

        double leastOfAll(boolean isLate) {
            double least = FREE;
            for (int corner = 0; corner < chip.cornerCount; corner++) {
                least = smaller(least, timing(corner, isLate).leastOfEnds());
            }
            return least;
        }

        int endsInNeed(boolean isLate) {
            int ends = 0;
            for (int end = 0; end < chip.nodeCount; end++) {
                boolean isInNeed = false;
                for (int corner = 0; corner < chip.cornerCount && chip.nodes[end].isEndKind(); corner++) {
                    isInNeed = isInNeed || timing(corner, isLate).leastAt(end) < 0.0;
                }
                ends += isInNeed ? 1 : 0;
            }
            return ends;
        }

        /** The least that would be left for the late; the SIZE is changed for the trial alone. */
        double leastWith(int node, int size) {
            Node changed = chip.nodes[node];
            int before = changed.size;
            paths.prepare();
            changed.size = size;
            trialDelays.reckon();
            double least = FREE;
            for (int corner = 0; corner < chip.cornerCount; corner++) {
                trial.reckon(chip.corners[corner]);
                least = smaller(least, trial.leastOfEnds());
            }
            changed.size = before;
            return least;
        }

        int bestChange() {
            double greatest = leastOfAll(true);
            int best = NONE;
            for (int node = 0; node < chip.nodeCount; node++) {
                for (int power = 0; power < 3; power++) {
                    if (chip.nodes[node].size == 1 << power) {
                        continue;
                    }
                    double would = leastWith(node, 1 << power);
                    if (would > greatest) {
                        greatest = would;
                        best = 4 * node + power;
                    }
                }
            }
            return best;
        }

        /** Whether the other CORNER leaves no more than this one anywhere. */
        boolean makesIdle(int other, int corner) {
            boolean isSame = true;
            for (int end = 0; end < chip.nodeCount; end++) {
                if (chip.nodes[end].isEndKind()) {
                    double late = timing(corner, true).leastAt(end) - timing(other, true).leastAt(end);
                    double early = timing(corner, false).leastAt(end) - timing(other, false).leastAt(end);
                    if (late < 0.0 || early < 0.0) {
                        return false;
                    }
                    isSame = isSame && late == 0.0 && early == 0.0;
                }
            }
            return !isSame || corner > other;
        }
    }
}
