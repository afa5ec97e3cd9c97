import java.io.IOException;
import java.lang.reflect.InvocationTargetException;
import java.lang.reflect.Method;
import java.nio.file.Files;
import java.nio.file.Path;
import java.util.ArrayList;
import java.util.Comparator;
import java.util.List;

/**
 * What the tests of single sentences share: chips to start from, ways to ask, and the run itself.
 *
 * <p>No object is asked more than 512 times, since the document leaves free what comes then.
 */
class Sentences {

    static final int NONE = -1;
    static final double FREE = 99999.0;
    static final int IN = 0;
    static final int BUF = 1;
    static final int INV = 2;
    static final int AND = 3;
    static final int NOR = 4;
    static final int XOR = 5;
    static final int FLOP = 6;
    static final int LATCH = 7;
    static final int OUT = 8;
    static final int LEAST = Integer.MIN_VALUE;
    static final int MOST = Integer.MAX_VALUE;

    private static final int ASKS_OF_ONE = 400;
    private static final Path DOCUMENT = Path.of("../shared/DOC.md");

    private static int wrong = 0;
    private static int asked = 0;
    private static String at = "";

    interface Maker {
        SlackHall make();
    }

    interface Call {
        void on(SlackHall x);
    }

    interface NumberCall {
        void on(SlackHall x, int number);
    }

    private interface Ask {
        Object of(SlackHall x);
    }

    // ---- what is due

    static void same(String what, double got, double want) {
        due(what, got == want, got, want);
    }

    static void same(String what, long got, long want) {
        due(what, got == want, got, want);
    }

    static void same(String what, boolean got, boolean want) {
        due(what, got == want, got, want);
    }

    private static void due(String what, boolean holds, Object got, Object want) {
        asked++;
        if (!holds) {
            wrong++;
            System.out.println(at + what + " answered " + got + ", due is " + want);
        }
    }

    static void fits(Maker maker, String what, Call call) {
        SlackHall x = maker.make();
        due(what, thrownBy(call, x) == null, thrownBy(call, maker.make()), "no exception");
    }

    static void isState(Maker maker, String what, Call call) {
        refused(IllegalStateException.class, maker, what, call);
    }

    static void isIndex(Maker maker, String what, Call call) {
        refused(IndexOutOfBoundsException.class, maker, what, call);
    }

    static void isArgument(Maker maker, String what, Call call) {
        refused(IllegalArgumentException.class, maker, what, call);
    }

    /** Both bounds are taken; what lies just beyond them, and far off, is not. */
    static void bounds(Maker maker, String what, int from, int to, NumberCall call) {
        for (int number : new int[] {from, to}) {
            fits(maker, what + " " + number, x -> call.on(x, number));
        }
        for (int number : new int[] {from - 1, to + 1, LEAST, MOST}) {
            isArgument(maker, what + " " + number, x -> call.on(x, number));
        }
    }

    /** The numbers from least to less than count are there; what lies just beyond them, and far off, is not. */
    static void numbers(Maker maker, String what, int least, int count, NumberCall call) {
        for (int number : new int[] {least - 1, count, LEAST, MOST}) {
            isIndex(maker, what + " " + number, x -> call.on(x, number));
        }
    }

    /** The sizes 1, 2 and 4 are taken, and no other. */
    static void sizes(Maker maker, String what, NumberCall call) {
        for (int size : new int[] {1, 2, 4}) {
            fits(maker, what + " " + size, x -> call.on(x, size));
        }
        for (int size : new int[] {0, 3, 5, 8, -1, -2, -4, LEAST, MOST}) {
            isArgument(maker, what + " " + size, x -> call.on(x, size));
        }
    }

    /** Of a NODE of each KIND, those that are STARTS are taken, and no other. */
    static void startsAlone(String what, NumberCall call) {
        kindsAlone(what, new boolean[] {true, false, false, false, false, false, true, true, false}, call);
    }

    /** Of a NODE of each KIND, those that are ENDS, or would be with a FEED, are taken, and no other. */
    static void endsAlone(String what, NumberCall call) {
        kindsAlone(what, new boolean[] {false, false, false, false, false, false, true, true, true}, call);
    }

    private static void kindsAlone(String what, boolean[] fit, NumberCall call) {
        for (int kind = IN; kind <= OUT; kind++) {
            int node = kind;
            if (fit[kind]) {
                fits(Sentences::kinds, what + " of kind " + kind, x -> call.on(x, node));
            } else {
                isArgument(Sentences::kinds, what + " of kind " + kind, x -> call.on(x, node));
            }
        }
    }

    /** The call throws just that, and leaves all as it is in a twin that was never so called. */
    private static void refused(Class<?> want, Maker maker, String what, Call call) {
        List<Ask> asks = allAsks(maker.make());
        for (int from = 0; from < asks.size(); from += ASKS_OF_ONE) {
            SlackHall x = maker.make();
            SlackHall twin = maker.make();
            Class<?> got = thrownBy(call, x);
            due(what, got == want, got, want);
            for (Ask ask : asks.subList(from, Math.min(asks.size(), from + ASKS_OF_ONE))) {
                Object now = ask.of(x);
                Object before = ask.of(twin);
                due(what + " was refused, and what is asked then", now.equals(before), now, before);
            }
        }
    }

    private static Class<?> thrownBy(Call call, SlackHall x) {
        try {
            call.on(x);
        } catch (RuntimeException e) {
            return e.getClass();
        }
        return null;
    }

    // ---- all that can be asked of a chip

    private static List<Ask> allAsks(SlackHall sample) {
        List<Ask> asks = new ArrayList<>();
        int corners = sample.many(1);
        List<Integer> starts = new ArrayList<>();
        List<Integer> ends = new ArrayList<>();
        for (int node = 0; node < sample.many(2); node++) {
            int kind = sample.ofNode(node, 0);
            if (kind == IN || kind == FLOP || kind == LATCH) {
                starts.add(node);
            }
            if (kind >= FLOP) {
                ends.add(node);
            }
            askNode(asks, node);
            askArrivals(asks, starts, node, corners);
            askLatch(asks, node, kind == LATCH ? corners : 0);
        }
        for (int end : ends) {
            askEnd(asks, end, corners);
            askPairs(asks, starts, end, corners);
        }
        askChip(asks, sample.many(0), corners);
        return asks;
    }

    private static void askNode(List<Ask> asks, int node) {
        for (int what = 0; what <= 6; what++) {
            int asking = what;
            asks.add(x -> x.ofNode(node, asking));
        }
        asks.add(x -> x.load(node));
        asks.add(x -> x.takes(node, true));
        asks.add(x -> x.takes(node, false));
        for (int size = 1; size <= 4; size *= 2) {
            int with = size;
            asks.add(x -> x.wouldLeave(node, with));
        }
    }

    private static void askArrivals(List<Ask> asks, List<Integer> starts, int node, int corners) {
        for (int start : starts) {
            for (int i = 0; i < corners * 4; i++) {
                int corner = i / 4;
                boolean isLate = i % 2 == 0;
                boolean isRise = i % 4 < 2;
                asks.add(x -> x.arrival(start, node, corner, isLate, isRise));
            }
        }
    }

    private static void askLatch(List<Ask> asks, int node, int corners) {
        for (int i = 0; i < corners; i++) {
            int corner = i;
            asks.add(x -> x.borrow(node, corner));
        }
    }

    private static void askEnd(List<Ask> asks, int end, int corners) {
        for (int i = 0; i < corners; i++) {
            int corner = i;
            asks.add(x -> x.leftAt(end, corner, true));
            asks.add(x -> x.leftAt(end, corner, false));
        }
        for (int i = 0; i <= 15; i++) {
            int back = i;
            asks.add(x -> x.worst(end, back));
        }
    }

    private static void askPairs(List<Ask> asks, List<Integer> starts, int end, int corners) {
        for (int start : starts) {
            asks.add(x -> x.winner(start, end));
            asks.add(x -> x.ways(start, end));
            for (int i = 0; i < corners; i++) {
                int corner = i;
                asks.add(x -> x.left(start, end, corner, true));
                asks.add(x -> x.left(start, end, corner, false));
            }
        }
    }

    private static void askChip(List<Ask> asks, int clocks, int corners) {
        for (int i = 0; i < clocks * 5; i++) {
            int clock = i / 5;
            int what = i % 5;
            asks.add(x -> x.ofClock(clock, what));
        }
        for (int i = 0; i < corners; i++) {
            int corner = i;
            asks.add(x -> x.isIdle(corner));
        }
        for (int i = 0; i <= 10; i++) {
            int what = i;
            asks.add(x -> x.many(what));
        }
        asks.add(x -> x.least(true));
        asks.add(x -> x.least(false));
        asks.add(x -> x.best());
        asks.add(x -> x.digest());
    }

    // ---- chips to start from

    static Maker signed(Maker maker) {
        return () -> {
            SlackHall x = maker.make();
            x.sign(true);
            return x;
        };
    }

    /** One CLOCK of PERIOD 10, and nothing else. */
    static SlackHall clocked() {
        SlackHall x = new SlackHall();
        x.clock(10, 0, 0, 0);
        return x;
    }

    /** A NODE of each KIND, whose number is its KIND; the FLOP has no FEED. */
    static SlackHall kinds() {
        SlackHall x = clocked();
        x.node(IN, 0, 0, 0);
        x.node(BUF, 0, 0, 0);
        x.node(INV, 1, 0, 0);
        x.node(AND, 1, 2, 0);
        x.node(NOR, 3, 1, 0);
        x.node(XOR, 4, 2, 0);
        x.node(FLOP, 0, 0, 0);
        x.node(LATCH, 5, 0, 0);
        x.node(OUT, 7, 0, 0);
        return x;
    }

    /** LATENCY 1.0, UNSURE 0.5; 0 IN, 1 BUF of it, 2 FLOP fed by 1, 3 INV of 2, 4 OUT of 3. */
    static SlackHall chain() {
        SlackHall x = new SlackHall();
        x.clock(10, 4, 2, 0);
        x.node(IN, 0, 0, 0);
        x.node(BUF, 0, 0, 0);
        x.node(FLOP, 0, 0, 0);
        x.feed(2, 1);
        x.node(INV, 2, 0, 0);
        x.node(OUT, 3, 0, 0);
        return x;
    }

    /** The FLOP 0, and 15 XORS, each of them with both FEEDS from the one before. */
    static SlackHall longest() {
        SlackHall x = clocked();
        x.node(FLOP, 0, 0, 0);
        for (int node = 1; node < 16; node++) {
            x.node(XOR, node - 1, node - 1, 0);
        }
        return x;
    }

    /** 0 IN, 1 BUF of it that takes 6.5, 2 LATCH of that: for its SKEW of 3.5 just nothing lacks of a PERIOD of 4. */
    static SlackHall lender(int period, int skew) {
        SlackHall x = new SlackHall();
        x.clock(period, 0, 0, 0);
        x.node(IN, 0, 0, 0);
        x.node(BUF, 0, 0, 0);
        x.node(LATCH, 1, 0, 0);
        x.wire(1, 62);
        x.skew(2, skew);
        return x;
    }

    /** As lender(4, skew), but the gate is the XOR 2 of the INS 0 and 1, for 1 the LATCH 3 lacks 1.0 more. */
    static SlackHall lenderOfTwo(int skew) {
        SlackHall x = new SlackHall();
        x.clock(4, 0, 0, 0);
        x.clock(4, 4, 0, 0);
        x.node(IN, 0, 0, 0);
        x.node(IN, 0, 0, 1);
        x.node(XOR, 0, 1, 0);
        x.node(LATCH, 2, 0, 0);
        x.wire(2, 62);
        x.skew(3, skew);
        return x;
    }

    /** A FLOP of the CLOCK endClock that is fed by an IN of the CLOCK startClock: all arrives at 0.0. */
    static int inToFlop(SlackHall x, int startClock, int endClock) {
        int in = x.node(IN, 0, 0, startClock);
        int flop = x.node(FLOP, 0, 0, endClock);
        x.feed(flop, in);
        return flop;
    }

    // ---- the run

    /** Runs each test of the class; its promises are those from first to last. */
    static void run(Class<?> tests, int first, int last) throws IOException, IllegalAccessException {
        List<Method> methods = new ArrayList<>();
        for (Method method : tests.getDeclaredMethods()) {
            if (method.isAnnotationPresent(Sentence.class)) {
                methods.add(method);
            }
        }
        methods.sort(Comparator.comparing((Method m) -> of(m).promise()).thenComparing(Method::getName));
        mustQuote(methods, first, last);
        for (Method method : methods) {
            at = "promise " + of(method).promise() + ", \"" + of(method).says() + "\", " + method.getName() + ": ";
            runOne(method);
        }
        System.out.println(methods.size() + " sentences, " + asked + " asked, " + wrong + " wrong");
        if (wrong != 0) {
            System.exit(1);
        }
    }

    private static Sentence of(Method method) {
        return method.getAnnotation(Sentence.class);
    }

    private static void runOne(Method method) throws IllegalAccessException {
        try {
            method.invoke(null);
        } catch (InvocationTargetException e) {
            due("the test", false, e.getCause(), "no exception");
        }
    }

    /** Each test quotes the document, and each line of it that tells of a throw is quoted. */
    private static void mustQuote(List<Method> methods, int first, int last) throws IOException {
        if (!Files.exists(DOCUMENT)) {
            System.out.println("there is no " + DOCUMENT + ": no quote was looked up");
            return;
        }
        String[] parts = Files.readString(DOCUMENT).replace("`", "").split("## Promise ");
        String whole = plain(String.join(" ", parts));
        for (Method method : methods) {
            Sentence of = of(method);
            due(method.getName(), whole.contains(of.says()), of.says(), "a sentence of the document");
            due(method.getName(), of.promise() >= first && of.promise() <= last, of.promise(), "one of this file");
        }
        for (int promise = first; promise <= last; promise++) {
            for (String line : parts[promise].split("\n")) {
                if (line.startsWith("Throws ")) {
                    due("promise " + promise, isQuoted(methods, promise, plain(line)), line, "quoted by a test");
                }
            }
        }
    }

    private static boolean isQuoted(List<Method> methods, int promise, String line) {
        for (Method method : methods) {
            if (of(method).promise() == promise && line.contains(of(method).says())) {
                return true;
            }
        }
        return false;
    }

    private static String plain(String text) {
        return text.replaceAll("\\s+", " ");
    }
}
