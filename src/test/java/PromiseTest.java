/** One method for each promise of the document; each answer in it was reckoned by hand. */
public final class PromiseTest {

    private static final int NONE = -1;
    private static final double FREE = 99999.0;
    private static final int IN = 0;
    private static final int BUF = 1;
    private static final int INV = 2;
    private static final int AND = 3;
    private static final int NOR = 4;
    private static final int XOR = 5;
    private static final int FLOP = 6;
    private static final int LATCH = 7;
    private static final int OUT = 8;

    private static int wrong = 0;
    private static int asked = 0;

    private interface Call {
        void run();
    }

    private static void same(String what, double got, double want) {
        asked++;
        if (got != want) {
            wrong++;
            System.out.println(what + " answered " + got + ", due is " + want);
        }
    }

    private static void same(String what, long got, long want) {
        asked++;
        if (got != want) {
            wrong++;
            System.out.println(what + " answered " + got + ", due is " + want);
        }
    }

    private static void same(String what, boolean got, boolean want) {
        same(what, got ? 1L : 0L, want ? 1L : 0L);
    }

    private static void fails(String what, Class<?> want, SlackHall x, Call call) {
        asked++;
        long before = x.digest();
        Class<?> got = null;
        try {
            call.run();
        } catch (RuntimeException e) {
            got = e.getClass();
        }
        if (got != want || x.digest() != before) {
            wrong++;
            System.out.println(what + " threw " + got + ", due is " + want + " and nothing changed");
        }
    }

    private static void isState(String what, SlackHall x, Call call) {
        fails(what, IllegalStateException.class, x, call);
    }

    private static void isIndex(String what, SlackHall x, Call call) {
        fails(what, IndexOutOfBoundsException.class, x, call);
    }

    private static void isArgument(String what, SlackHall x, Call call) {
        fails(what, IllegalArgumentException.class, x, call);
    }

    /** One clock of period 10; 0 IN, 1 BUF of it, 2 FLOP fed by 1, 3 INV of 2, 4 OUT of 3. */
    private static SlackHall chain() {
        SlackHall x = new SlackHall();
        x.clock(10, 4, 2, 0);
        x.node(IN, 0, 0, 0);
        x.node(BUF, 0, 0, 0);
        x.node(FLOP, 0, 0, 0);
        x.feed(2, 1);
        x.node(INV, 2, 0, 0);
        x.node(OUT, 3, 0, 0);
        return x;
    }

    /** 0 IN, 1 and 2 BUFS of it with the wires of so many quarters, 3 LATCH fed by 2, 4 BUF of it, 5 LATCH fed by 4. */
    private static SlackHall latches(int wireOne, int wireTwo) {
        SlackHall x = new SlackHall();
        x.clock(6, 0, 0, 0);
        x.node(IN, 0, 0, 0);
        x.node(BUF, 0, 0, 0);
        x.node(BUF, 1, 0, 0);
        x.node(LATCH, 2, 0, 0);
        x.node(BUF, 3, 0, 0);
        x.node(LATCH, 4, 0, 0);
        x.wire(1, wireOne);
        x.wire(2, wireTwo);
        return x;
    }

    private static void promise1NewObject() {
        SlackHall x = new SlackHall();
        int[] many = {0, 1, 0, 0, 0, 0, 0, 0, 0, 0, 0};
        for (int what = 0; what <= 10; what++) {
            same("1 many(" + what + ")", x.many(what), many[what]);
        }
        same("1 sign(false)", x.sign(false), false);
        same("1 least", x.least(true), FREE);
        isIndex("1 no clock", x, () -> x.ofClock(0, 0));
        isIndex("1 no node", x, () -> x.ofNode(0, 0));
        isIndex("1 no second corner", x, () -> x.isIdle(1));
    }

    private static void promise2Clock() {
        SlackHall x = new SlackHall();
        same("2 least values", x.clock(4, 0, 0, 0), 0);
        same("2 greatest values", x.clock(40, 40, 20, 1), 1);
        isArgument("2 period 3", x, () -> x.clock(3, 0, 0, 0));
        isArgument("2 period 41", x, () -> x.clock(41, 0, 0, 0));
        isArgument("2 latency -1", x, () -> x.clock(4, -1, 0, 0));
        isArgument("2 latency 41", x, () -> x.clock(4, 41, 0, 0));
        isArgument("2 unsure -1", x, () -> x.clock(4, 0, -1, 0));
        isArgument("2 unsure 21", x, () -> x.clock(4, 0, 21, 0));
        isArgument("2 group -1", x, () -> x.clock(4, 0, 0, -1));
        isArgument("2 group 2", x, () -> x.clock(4, 0, 0, 2));
        same("2 third", x.clock(5, 1, 2, 0), 2);
        x.sign(true);
        isState("2 signed", x, () -> x.clock(3, 0, 0, 0));
        x.sign(false);
        same("2 fourth", x.clock(6, 3, 4, 1), 3);
        isState("2 there are 4", x, () -> x.clock(3, 0, 0, 0));
    }

    private static void promise3Divide() {
        SlackHall x = new SlackHall();
        isIndex("3 no clock", x, () -> x.divide(0, 9, 0));
        x.clock(40, 40, 20, 1);
        isIndex("3 clock -1", x, () -> x.divide(-1, 2, 0));
        isIndex("3 clock 1 ahead of by", x, () -> x.divide(1, 1, 0));
        isArgument("3 by 1", x, () -> x.divide(0, 1, 0));
        isArgument("3 by 5", x, () -> x.divide(0, 5, 0));
        isArgument("3 latency -1", x, () -> x.divide(0, 2, -1));
        isArgument("3 latency 21", x, () -> x.divide(0, 2, 21));
        same("3 by 2", x.divide(0, 2, 0), 1);
        same("3 by 4", x.divide(1, 4, 20), 2);
        same("3 period", x.ofClock(2, 0), 320);
        same("3 latency", x.ofClock(2, 1), 60);
        same("3 unsure", x.ofClock(2, 2), 20);
        same("3 group", x.ofClock(2, 3), 1);
        same("3 root", x.ofClock(2, 4), 0);
        x.sign(true);
        isState("3 signed", x, () -> x.divide(9, 9, 99));
        x.sign(false);
        same("3 by 3", x.divide(2, 3, 5), 3);
        isState("3 there are 4", x, () -> x.divide(9, 9, 99));
    }

    private static void promise4Corner() {
        SlackHall x = new SlackHall();
        isArgument("4 late 7", x, () -> x.corner(7, 8));
        isArgument("4 late 17", x, () -> x.corner(17, 8));
        isArgument("4 early 0", x, () -> x.corner(8, 0));
        isArgument("4 early 9", x, () -> x.corner(8, 9));
        same("4 second", x.corner(8, 1), 1);
        x.sign(true);
        isState("4 signed", x, () -> x.corner(0, 0));
        x.sign(false);
        same("4 third", x.corner(16, 8), 2);
        isState("4 there are 3", x, () -> x.corner(0, 0));
    }

    private static void promise5Node() {
        SlackHall x = new SlackHall();
        isIndex("5 no clock yet", x, () -> x.node(IN, 0, 0, 0));
        x.clock(10, 0, 0, 0);
        isIndex("5 feed itself", x, () -> x.node(BUF, 0, 0, 0));
        isArgument("5 kind -1", x, () -> x.node(-1, 9, 9, 9));
        isArgument("5 kind 9", x, () -> x.node(9, 9, 9, 9));
        same("5 in", x.node(IN, 9, 9, 0), 0);
        same("5 out", x.node(OUT, 0, 9, 0), 1);
        isIndex("5 clock 1", x, () -> x.node(IN, 0, 0, 1));
        isIndex("5 clock -1", x, () -> x.node(FLOP, 0, 0, -1));
        isIndex("5 latch without clock, ahead of feed out", x, () -> x.node(LATCH, 1, 0, 4));
        isIndex("5 out without clock", x, () -> x.node(OUT, 0, 0, 4));
        isIndex("5 other is no node, ahead of one out", x, () -> x.node(AND, 1, 2, 0));
        isIndex("5 one is no node", x, () -> x.node(NOR, -1, 0, 0));
        isArgument("5 feed out", x, () -> x.node(INV, 1, 0, 0));
        isArgument("5 latch of out", x, () -> x.node(LATCH, 1, 0, 0));
        isArgument("5 out of out", x, () -> x.node(OUT, 1, 0, 0));
        isArgument("5 other out", x, () -> x.node(XOR, 0, 1, 0));
        same("5 flop minds no feed", x.node(FLOP, 1, 9, 0), 2);
        same("5 buf minds no other, no clock", x.node(BUF, 2, 1, 9), 3);
        same("5 and", x.node(AND, 3, 0, 9), 4);
        same("5 latch", x.node(LATCH, 4, 1, 0), 5);
        x.sign(true);
        isState("5 signed", x, () -> x.node(9, 9, 9, 9));
        x.sign(false);
        for (int i = 6; i < 16; i++) {
            same("5 up to 16", x.node(IN, 0, 0, 0), i);
        }
        isState("5 there are 16", x, () -> x.node(9, 9, 9, 9));
    }

    private static void promise6Feed() {
        SlackHall x = chain();
        same("6 another, told later", x.feed(2, 3), 1);
        same("6 itself", x.feed(2, 2), 3);
        same("6 a new one", x.node(FLOP, 0, 0, 0), 5);
        same("6 none before", x.feed(5, 2), NONE);
        same("6 is told", x.ofNode(5, 1), 2);
        isIndex("6 flop 6", x, () -> x.feed(6, 4));
        isIndex("6 node 6, ahead of no flop", x, () -> x.feed(0, 6));
        isIndex("6 node -1", x, () -> x.feed(2, -1));
        isArgument("6 no flop", x, () -> x.feed(1, 0));
        isArgument("6 an out", x, () -> x.feed(2, 4));
        x.sign(true);
        isState("6 signed", x, () -> x.feed(9, 9));
    }

    private static void promise7Size() {
        SlackHall x = chain();
        same("7 1 at first", x.size(1, 2), 1);
        same("7 2 before", x.size(1, 4), 2);
        same("7 takes", x.takes(1, true), 1.375 / 4.0);
        same("7 of an out", x.size(4, 4), 1);
        same("7 load of an out stays", x.load(3), 3.0);
        isIndex("7 node 5, ahead of size", x, () -> x.size(5, 3));
        isArgument("7 size 3", x, () -> x.size(1, 3));
        isArgument("7 size 0", x, () -> x.size(1, 0));
        isArgument("7 size 8", x, () -> x.size(1, 8));
        x.sign(true);
        isState("7 signed", x, () -> x.size(9, 9));
    }

    private static void promise8Wire() {
        SlackHall x = chain();
        same("8 cut", x.wire(1, 5), 1);
        same("8 load", x.load(1), 1.75);
        same("8 most", x.wire(1, 80), 20);
        same("8 none", x.wire(1, 0), 0);
        same("8 load of an out is its wire", x.wire(4, 7), 1);
        same("8 that of an out", x.load(4), 1.75);
        isIndex("8 node 5, ahead of quarters", x, () -> x.wire(5, 81));
        isArgument("8 quarters 81", x, () -> x.wire(1, 81));
        isArgument("8 quarters -1", x, () -> x.wire(1, -1));
        x.sign(true);
        isState("8 signed", x, () -> x.wire(9, 99));
    }

    private static void promise9Skew() {
        SlackHall x = chain();
        same("9 0 at first", x.skew(2, 20), 0);
        same("9 20 before", x.skew(2, 3), 20);
        same("9 kept", x.ofNode(2, 6), 3);
        same("9 end", x.left(0, 2, 0, true), 10.0 - 0.5 - 1.0 + 1.75 - 1.0 - 1.375);
        same("9 start", x.left(2, 4, 0, true), 10.0 - 0.5 + 1.0 - 1.75 - 4.6875);
        isIndex("9 node 5", x, () -> x.skew(5, 21));
        isArgument("9 an in", x, () -> x.skew(0, 0));
        isArgument("9 a gate", x, () -> x.skew(1, 0));
        isArgument("9 an out", x, () -> x.skew(4, 0));
        isArgument("9 quarters 21", x, () -> x.skew(2, 21));
        isArgument("9 quarters -1", x, () -> x.skew(2, -1));
        SlackHall y = latches(4, 4);
        double late = y.left(0, 3, 0, true);
        same("9 a latch", y.skew(3, 1), 0);
        same("9 told anew", y.left(0, 3, 0, true), late + 0.25);
        x.sign(true);
        isState("9 signed", x, () -> x.skew(9, 99));
    }

    private static void promise10Exception() {
        SlackHall x = chain();
        isIndex("10 from -2", x, () -> x.exception(1, -2, NONE));
        isIndex("10 from 5", x, () -> x.exception(0, 5, NONE));
        isIndex("10 to 5, ahead of from", x, () -> x.exception(0, 1, 5));
        isIndex("10 to -2", x, () -> x.exception(0, NONE, -2));
        isArgument("10 sort 1", x, () -> x.exception(1, NONE, NONE));
        isArgument("10 sort 5", x, () -> x.exception(5, NONE, NONE));
        isArgument("10 sort -1", x, () -> x.exception(-1, NONE, NONE));
        isArgument("10 from a gate", x, () -> x.exception(0, 1, NONE));
        isArgument("10 from an out", x, () -> x.exception(0, 4, NONE));
        isArgument("10 to an in", x, () -> x.exception(0, NONE, 0));
        isArgument("10 to a gate", x, () -> x.exception(0, NONE, 3));
        int[] sorts = {0, 2, 3, 4, 2};
        for (int i = 0; i < sorts.length; i++) {
            same("10 number", x.exception(sorts[i], i % 2 == 0 ? NONE : 2, i < 2 ? NONE : 4), i);
        }
        x.sign(true);
        isState("10 signed", x, () -> x.exception(1, 9, 9));
        x.sign(false);
        same("10 sixth", x.exception(0, 0, 2), 5);
        isState("10 there are 6", x, () -> x.exception(1, 9, 9));
    }

    private static void promise11Sign() {
        SlackHall x = chain();
        same("11 was not", x.sign(true), false);
        same("11 was", x.sign(true), true);
        same("11 told", x.many(9), 1);
        isState("11 shut", x, () -> x.wire(1, 0));
        same("11 asks go on", x.load(1), 1.5);
        same("11 opens", x.sign(false), true);
        same("11 open", x.wire(1, 0), 0);
    }

    private static void promise12Knock() {
        SlackHall x = chain();
        same("12 first", x.knock(), 1);
        x.sign(true);
        same("12 signed", x.knock(), 2);
        isState("12 no knock by a throw", x, () -> x.feed(2, 1));
        same("12 told", x.many(10), 2);
        x.sign(false);
        same("12 third", x.knock(), 3);
    }

    private static void promise13OfClock() {
        SlackHall x = new SlackHall();
        x.clock(12, 7, 3, 1);
        x.clock(9, 1, 0, 0);
        int[][] due = {{12, 7, 3, 1, 0}, {9, 1, 0, 0, 1}};
        for (int clock = 0; clock < 2; clock++) {
            for (int what = 0; what < 5; what++) {
                same("13 ofClock(" + clock + ", " + what + ")", x.ofClock(clock, what), due[clock][what]);
            }
        }
        isIndex("13 clock 2, ahead of what", x, () -> x.ofClock(2, 5));
        isIndex("13 clock -1", x, () -> x.ofClock(-1, 0));
        isArgument("13 what 5", x, () -> x.ofClock(0, 5));
        isArgument("13 what -1", x, () -> x.ofClock(0, -1));
    }

    private static void promise14OfNode() {
        SlackHall x = chain();
        x.clock(9, 1, 0, 0);
        x.node(XOR, 3, 3, 1);
        x.node(LATCH, 5, 0, 1);
        x.skew(6, 9);
        x.size(3, 4);
        int[][] due = {{0, -1, -1, 0, 1, 1, 0}, {1, 0, -1, -1, 1, 1, 0}, {6, 1, -1, 0, 1, 1, 0},
            {2, 2, -1, -1, 4, 3, 0}, {8, 3, -1, 0, 1, 0, 0}, {5, 3, 3, -1, 1, 1, 0}, {7, 5, -1, 1, 1, 0, 9}};
        for (int node = 0; node < due.length; node++) {
            for (int what = 0; what < 7; what++) {
                same("14 ofNode(" + node + ", " + what + ")", x.ofNode(node, what), due[node][what]);
            }
        }
        same("14 flop without feed", x.ofNode(x.node(FLOP, 1, 1, 1), 1), NONE);
        isIndex("14 node 8, ahead of what", x, () -> x.ofNode(8, 7));
        isIndex("14 node -1", x, () -> x.ofNode(-1, 0));
        isArgument("14 what 7", x, () -> x.ofNode(0, 7));
        isArgument("14 what -1", x, () -> x.ofNode(0, -1));
    }

    private static void promise15Load() {
        SlackHall x = chain();
        same("15 wire and a flop", x.load(1), 1.5);
        same("15 wire and an out", x.load(3), 3.0);
        x.node(XOR, 1, 1, 0);
        same("15 each feed counts", x.load(1), 2.5);
        x.size(5, 4);
        same("15 sizes count", x.load(1), 5.5);
        x.wire(1, 3);
        same("15 quarters", x.load(1), 5.25);
        x.feed(2, 2);
        same("15 a feed that went", x.load(1), 4.75);
        same("15 its own feed", x.load(2), 2.0);
        isIndex("15 node 6", x, () -> x.load(6));
        isIndex("15 node -1", x, () -> x.load(-1));
    }

    private static void promise16Takes() {
        SlackHall x = new SlackHall();
        x.clock(10, 0, 0, 0);
        x.node(IN, 0, 0, 0);
        x.node(BUF, 0, 0, 0);
        x.node(FLOP, 0, 0, 0);
        x.node(LATCH, 1, 0, 0);
        x.node(OUT, 2, 0, 0);
        // The LOAD of 1 is its WIRE and 0.5 of the LATCH.
        int[] quarters = {0, 13, 14, 15, 29, 30, 31, 61, 62, 63, 80};
        double[] rises = {1.125, 1.9375, 2.0, 2.09375, 3.40625, 3.5, 3.59375, 6.40625, 6.5, 6.625, 8.75};
        for (int i = 0; i < quarters.length; i++) {
            x.wire(1, quarters[i]);
            same("16 rise of wire " + quarters[i], x.takes(1, true), rises[i]);
            same("16 fall of wire " + quarters[i], x.takes(1, false), 0.75 * rises[i]);
        }
        x.size(1, 4);
        same("16 by size", x.takes(1, true), 8.75 / 4.0);
        same("16 in", x.takes(0, true), 0.0);
        same("16 out", x.takes(4, false), 0.0);
        same("16 flop", x.takes(2, true), 3.75);
        x.size(2, 2);
        same("16 flop of size 2", x.takes(2, true), 1.75 / 2.0 + 2.0);
        same("16 flop falls", x.takes(2, false), 0.75 * (1.75 / 2.0 + 2.0));
        same("16 latch", x.takes(3, true), 3.25);
        isIndex("16 node 5", x, () -> x.takes(5, true));
        isIndex("16 node -1", x, () -> x.takes(-1, true));
    }

    private static void promise17Arrival() {
        SlackHall x = chain();
        x.corner(12, 4);
        same("17 in", x.arrival(0, 0, 0, true, true), 0.0);
        same("17 buf rises", x.arrival(0, 1, 0, true, true), 1.375);
        same("17 buf falls", x.arrival(0, 1, 0, true, false), 1.03125);
        same("17 late corner", x.arrival(0, 1, 1, true, true), 1.5 * 1.375);
        same("17 early corner", x.arrival(0, 1, 1, false, true), 0.5 * 1.375);
        // FLOP 2 has a LOAD of 1.5: 3.375 and 2.53125; INV 3 one of 3.0: 1.75 and 1.3125.
        same("17 inv rises of fall", x.arrival(2, 3, 0, true, true), 2.53125 + 1.75);
        same("17 inv falls of rise", x.arrival(2, 3, 0, true, false), 3.375 + 1.3125);
        same("17 none through a flop", x.arrival(0, 3, 0, true, true), -1.0);
        same("17 none at another start", x.arrival(0, 2, 0, true, true), -1.0);
        same("17 none at an out", x.arrival(2, 4, 0, true, true), -1.0);
        isIndex("17 start 5", x, () -> x.arrival(5, 1, 0, true, true));
        isIndex("17 node 5, ahead of no start", x, () -> x.arrival(1, 5, 0, true, true));
        isIndex("17 corner 2", x, () -> x.arrival(0, 1, 2, true, true));
        isIndex("17 corner -1", x, () -> x.arrival(0, 1, -1, true, true));
        isArgument("17 a gate", x, () -> x.arrival(1, 1, 0, true, true));
        isArgument("17 an out", x, () -> x.arrival(4, 1, 0, true, true));
        promise17Gates();
        SlackHall y = latches(40, 4);
        same("17 a borrow ahead, late", y.arrival(3, 3, 0, true, true), 0.8125 + 3.375);
        same("17 none of it early", y.arrival(3, 3, 0, false, true), 3.375);
        y.corner(16, 8);
        same("17 the borrow is not multiplied", y.arrival(3, 3, 1, true, true), 3.0 + 2.0 * 3.375);
    }

    private static void promise17Gates() {
        SlackHall x = new SlackHall();
        x.clock(10, 0, 0, 0);
        x.node(FLOP, 0, 0, 0);
        int slow = x.node(BUF, 0, 0, 0);
        int and = x.node(AND, 0, slow, 0);
        int nor = x.node(NOR, 0, slow, 0);
        int xor = x.node(XOR, 0, slow, 0);
        // The FLOP has a LOAD of 3.0: 3.75, 2.8125; the BUF one of 2.5: 1.625, 1.21875; the gates of 1.0: 1.25, 0.9375.
        same("17 and, late rise", x.arrival(0, and, 0, true, true), 3.75 + 1.625 + 1.25);
        same("17 and, late fall", x.arrival(0, and, 0, true, false), 2.8125 + 1.21875 + 0.9375);
        same("17 and, early rise", x.arrival(0, and, 0, false, true), 3.75 + 1.25);
        same("17 nor, late rise", x.arrival(0, nor, 0, true, true), 2.8125 + 1.21875 + 1.25);
        same("17 nor, late fall", x.arrival(0, nor, 0, true, false), 3.75 + 1.625 + 0.9375);
        same("17 nor, early fall", x.arrival(0, nor, 0, false, false), 3.75 + 0.9375);
        same("17 xor, late fall", x.arrival(0, xor, 0, true, false), 3.75 + 1.625 + 0.9375);
        same("17 xor, early rise", x.arrival(0, xor, 0, false, true), 2.8125 + 1.25);
    }

    private static void promise18Winner() {
        SlackHall x = chain();
        same("18 none", x.winner(0, 2), NONE);
        x.exception(4, NONE, NONE);
        same("18 any", x.winner(0, 2), 0);
        x.exception(2, NONE, 2);
        same("18 an end", x.winner(0, 2), 1);
        same("18 fits not there", x.winner(0, 4), 0);
        x.exception(3, 0, NONE);
        same("18 a start beats an end", x.winner(0, 2), 2);
        x.exception(2, NONE, 2);
        same("18 not by being later", x.winner(0, 2), 2);
        same("18 the later of two alike", x.winner(2, 2), 3);
        x.exception(2, 0, 2);
        same("18 both by number", x.winner(0, 2), 4);
        x.exception(0, NONE, NONE);
        same("18 a false one", x.winner(0, 2), 5);
        same("18 everywhere", x.winner(2, 4), 5);
        isIndex("18 start 5, ahead of no end", x, () -> x.winner(5, 1));
        isIndex("18 end -1", x, () -> x.winner(0, -1));
        isArgument("18 no start", x, () -> x.winner(1, 2));
        isArgument("18 an out as start", x, () -> x.winner(4, 2));
        isArgument("18 no end", x, () -> x.winner(0, 1));
        isArgument("18 an in as end", x, () -> x.winner(0, 0));
        SlackHall y = chain();
        y.exception(0, 0, NONE);
        y.exception(0, NONE, 2);
        y.exception(0, NONE, NONE);
        y.exception(4, 0, 2);
        same("18 false by start", y.winner(0, 2), 0);
        same("18 false by end", y.winner(2, 2), 1);
        same("18 false by none", y.winner(2, 4), 2);
        same("18 a flop without feed", y.winner(0, y.node(FLOP, 0, 0, 0)), 0);
    }

    private static void promise19Left() {
        SlackHall x = chain();
        x.corner(12, 4);
        same("19 late", x.left(0, 2, 0, true), 10.0 - 0.5 - 1.0 + 1.0 - 1.0 + 0.0 - 1.375);
        same("19 early", x.left(0, 2, 0, false), 1.03125 + 1.0 - 1.0 - 0.5 - 0.5 + 0.0);
        same("19 late, corner", x.left(0, 2, 1, true), 10.0 - 0.5 - 1.0 + 0.5 - 1.5 + 1.0 - 2.0625);
        same("19 early, corner", x.left(0, 2, 1, false), 0.515625 + 0.5 - 1.5 - 0.5 - 0.5 + 1.0);
        same("19 late, out", x.left(2, 4, 0, true), 10.0 - 0.5 - 4.6875);
        same("19 early, out", x.left(2, 4, 0, false), 4.28125 - 0.5);
        same("19 no arrival", x.left(0, 4, 0, true), FREE);
        same("19 no feed", x.left(0, x.node(FLOP, 0, 0, 0), 0, true), FREE);
        isIndex("19 start 6", x, () -> x.left(6, 1, 0, true));
        isIndex("19 end 6", x, () -> x.left(1, 6, 0, true));
        isIndex("19 corner 2, ahead of no start", x, () -> x.left(1, 1, 2, true));
        isIndex("19 corner -1", x, () -> x.left(0, 2, -1, true));
        isArgument("19 no start", x, () -> x.left(1, 2, 0, true));
        isArgument("19 no end", x, () -> x.left(0, 3, 0, true));
        promise19Clocks();
        promise19Exceptions();
        SlackHall y = latches(40, 4);
        same("19 lent to 0.0 at most", y.left(0, 3, 0, true), 0.0);
        SlackHall z = latches(40, 80);
        same("19 lent half a period", z.left(0, 3, 0, true), 5.0 - 4.4375 - 8.75 + 3.0);
    }

    private static void promise19Clocks() {
        SlackHall x = new SlackHall();
        x.clock(12, 8, 1, 0);
        x.clock(9, 4, 4, 0);
        x.divide(0, 2, 6);
        x.clock(12, 8, 1, 1);
        x.corner(14, 6);
        for (int clock = 0; clock < 4; clock++) {
            x.node(IN, 0, 0, clock);
        }
        // A FLOP has a LOAD of 1.0 and is fed by an IN: all arrives at 0.0.
        int flop = x.node(FLOP, 0, 0, 2);
        x.feed(flop, 0);
        same("19 a divided clock", x.left(0, flop, 1, true), 12.0 - 0.25 - 1.0 + 3.5 * 0.75 - 2.0 * 1.75 + 1.0 * 2.0);
        same("19 that early", x.left(0, flop, 1, false), 2.0 * 0.75 - 3.5 * 1.75 - 0.25 - 0.5 + 1.0 * 2.0);
        x.feed(flop, 2);
        same("19 the same clock", x.left(2, flop, 1, true), 24.0 - 0.25 - 1.0 + 3.5 * 0.75 - 3.5 * 1.75 + 3.5);
        int slow = x.node(FLOP, 0, 0, 0);
        x.feed(slow, 2);
        same("19 credit of the smaller", x.left(2, slow, 1, true), 12.0 - 0.25 - 1.0 + 2.0 * 0.75 - 3.5 * 1.75 + 2.0);
        x.feed(flop, 1);
        same("19 unlike roots", x.left(1, flop, 1, true), 3.0 - 0.25 - 1.0 + 3.5 * 0.75 - 1.0 * 1.75);
        x.feed(flop, 3);
        same("19 unlike groups", x.left(3, flop, 1, true), FREE);
        int other = x.node(FLOP, 0, 0, 1);
        x.feed(other, 2);
        same("19 unsure of the end", x.left(2, other, 0, true), 3.0 - 1.0 - 1.0 + 1.0 - 3.5);
    }

    private static void promise19Exceptions() {
        SlackHall x = new SlackHall();
        x.clock(12, 0, 0, 0);
        x.clock(9, 0, 0, 0);
        x.node(IN, 0, 0, 0);
        x.node(OUT, 0, 0, 1);
        same("19 gap", x.left(0, 1, 0, true), 3.0);
        x.exception(3, NONE, NONE);
        same("19 multi", x.left(0, 1, 0, true), 3.0 + 18.0);
        same("19 multi is nothing early", x.left(0, 1, 0, false), 0.0);
        x.exception(2, NONE, 1);
        same("19 multi that wins", x.left(0, 1, 0, true), 3.0 + 9.0);
        x.exception(0, NONE, NONE);
        same("19 false", x.left(0, 1, 0, true), FREE);
        same("19 false, early", x.left(0, 1, 0, false), FREE);
    }

    private static void promise20LeftAt() {
        SlackHall x = chain();
        int xor = x.node(XOR, 1, 2, 0);
        int end = x.node(FLOP, 0, 0, 0);
        x.feed(end, xor);
        double a = x.left(0, end, 0, true);
        double b = x.left(2, end, 0, true);
        same("20 less of the flop", b < a, true);
        same("20 the least, late", x.leftAt(end, 0, true), b);
        same("20 the least, early", x.leftAt(end, 0, false), x.left(0, end, 0, false));
        x.exception(0, 2, NONE);
        same("20 of the checked alone", x.leftAt(end, 0, true), a);
        x.exception(0, NONE, NONE);
        same("20 free", x.leftAt(end, 0, true), FREE);
        same("20 no feed", x.leftAt(x.node(FLOP, 0, 0, 0), 0, true), FREE);
        isIndex("20 node 8", x, () -> x.leftAt(8, 0, true));
        isIndex("20 corner 1, ahead of no end", x, () -> x.leftAt(0, 1, true));
        isArgument("20 an in", x, () -> x.leftAt(0, 0, true));
        isArgument("20 a gate", x, () -> x.leftAt(1, 0, true));
    }

    private static void promise21Borrow() {
        SlackHall x = latches(4, 4);
        same("21 nothing lacks", x.borrow(3, 0), 0.0);
        same("21 what is left stays", x.leftAt(3, 0, true), 2.25);
        x.wire(1, 40);
        same("21 what lacks", x.borrow(3, 0), 0.8125);
        same("21 behind it", x.borrow(5, 0), 0.8125 + 3.375 + 1.375 - 5.0);
        x.wire(2, 80);
        same("21 half a period", x.borrow(3, 0), 3.0);
        x.exception(2, 0, NONE);
        same("21 a multi gives more", x.borrow(3, 0), 8.1875 - 6.0);
        x.exception(0, 0, 3);
        same("21 nothing is checked", x.borrow(3, 0), 0.0);
        isIndex("21 node 6", x, () -> x.borrow(6, 0));
        isIndex("21 corner 1, ahead of no latch", x, () -> x.borrow(0, 1));
        isArgument("21 no latch", x, () -> x.borrow(0, 0));
        promise21TwoStarts();
    }

    private static void promise21TwoStarts() {
        SlackHall x = new SlackHall();
        x.clock(4, 0, 0, 0);
        x.clock(8, 0, 0, 0);
        x.node(FLOP, 0, 0, 0);
        x.node(IN, 0, 0, 1);
        x.node(BUF, 0, 0, 0);
        x.node(XOR, 2, 1, 0);
        x.node(LATCH, 3, 0, 0);
        x.wire(2, 18);
        // FLOP: 3.375, BUF of 5.0: 2.375, XOR of 1.5: 1.375, in all 7.125 of 3.0; the IN takes 1.375 alone.
        same("21 the greatest lack, cut", x.borrow(4, 0), 2.0);
        same("21 less than it lacks", x.left(0, 4, 0, true), 3.0 - 7.125 + 2.0);
        same("21 the other stays", x.left(1, 4, 0, true), 3.0 - 1.375);
        x.exception(2, 0, NONE);
        same("21 a small lack", x.borrow(4, 0), 0.125);
        same("21 is lent in whole", x.left(0, 4, 0, true), 0.0);
        promise21Less();
    }

    private static void promise21Less() {
        SlackHall x = new SlackHall();
        x.clock(20, 0, 0, 0);
        x.clock(20, 0, 0, 0);
        x.node(FLOP, 0, 0, 0);
        x.node(FLOP, 0, 0, 1);
        x.node(XOR, 0, 1, 0);
        x.wire(2, 80);
        x.node(LATCH, 2, 0, 0);
        x.wire(0, 80);
        x.wire(1, 40);
        // XOR of 20.5: 8.75; FLOPS of 20.5 and 10.5: 10.75 and 6.4375; of 20.0 less 1.0 lacks 0.5 and nothing.
        same("21 one lacks", x.borrow(3, 0), 0.5);
        same("21 the one", x.left(0, 3, 0, true), 0.0);
        same("21 the other", x.left(1, 3, 0, true), 3.8125);
        x.skew(1, 15);
        same("21 what hardly lacks nothing stays", x.left(1, 3, 0, true), 0.0625);
        x.skew(1, 16);
        same("21 both lack, one less", x.borrow(3, 0), 0.5);
        same("21 the one again", x.left(0, 3, 0, true), 0.0);
        same("21 the less, 0.0 at most", x.left(1, 3, 0, true), 0.0);
        same("21 early ones are lent nothing", x.left(1, 3, 0, false), 0.75 * (6.4375 + 8.75) + 4.0 - 0.5);
    }

    private static void promise22Ways() {
        SlackHall x = new SlackHall();
        x.clock(10, 0, 0, 0);
        x.node(FLOP, 0, 0, 0);
        same("22 no feed", x.ways(0, 0), 0);
        x.feed(0, 0);
        same("22 itself", x.ways(0, 0), 1);
        for (int i = 1; i < 15; i++) {
            x.node(XOR, i - 1, i - 1, 0);
        }
        x.feed(0, 14);
        same("22 each feed counts", x.ways(0, 0), 16384);
        x.node(LATCH, 14, 0, 0);
        same("22 to a latch", x.ways(0, 15), 16384);
        same("22 none through a latch", x.ways(15, 0), 0);
        x.exception(0, NONE, NONE);
        same("22 false ones count", x.ways(0, 15), 16384);
        isIndex("22 start 16", x, () -> x.ways(16, 1));
        isIndex("22 end -1", x, () -> x.ways(1, -1));
        isArgument("22 no start", x, () -> x.ways(1, 0));
        isArgument("22 no end", x, () -> x.ways(0, 1));
    }

    private static void promise23Worst() {
        SlackHall x = latches(4, 4);
        int[] back = {2, 1, 0, NONE, NONE};
        for (int i = 0; i < back.length; i++) {
            same("23 back " + i, x.worst(3, i), back[i]);
        }
        same("23 the start of a latch", x.worst(5, 1), 3);
        same("23 behind it", x.worst(5, 2), NONE);
        same("23 15 back", x.worst(5, 15), NONE);
        x.exception(0, NONE, 5);
        same("23 nothing is checked", x.worst(5, 0), NONE);
        same("23 no feed", x.worst(x.node(FLOP, 0, 0, 0), 0), NONE);
        isIndex("23 node 7, ahead of back", x, () -> x.worst(7, 16));
        isArgument("23 no end", x, () -> x.worst(0, 0));
        isArgument("23 back 16", x, () -> x.worst(3, 16));
        isArgument("23 back -1", x, () -> x.worst(3, -1));
        promise23Choices();
    }

    private static void promise23Choices() {
        SlackHall x = new SlackHall();
        x.clock(10, 0, 0, 0);
        x.node(FLOP, 0, 0, 0);
        x.node(FLOP, 0, 0, 0);
        x.node(BUF, 1, 0, 0);
        x.node(BUF, 0, 0, 0);
        x.node(XOR, 3, 2, 0);
        x.node(OUT, 4, 0, 0);
        same("23 both the same", x.left(0, 5, 0, true), x.left(1, 5, 0, true));
        same("23 the smallest start", x.worst(5, 1), 3);
        x.wire(2, 5);
        same("23 the least left", x.worst(5, 1), 2);
        same("23 its start", x.worst(5, 2), 1);

        SlackHall y = new SlackHall();
        y.clock(10, 0, 0, 0);
        y.node(FLOP, 0, 0, 0);
        y.node(BUF, 0, 0, 0);
        y.node(BUF, 0, 0, 0);
        y.node(AND, 2, 1, 0);
        y.node(OUT, 3, 0, 0);
        same("23 the first feed of both", y.worst(4, 1), 2);
        y.wire(1, 5);
        same("23 the later feed", y.worst(4, 1), 1);

        // From 5 back, RISE comes last; NOR makes it of FALL: the INV (that FALLS of RISE) against the BUF.
        SlackHall z = new SlackHall();
        z.clock(10, 0, 0, 0);
        z.node(FLOP, 0, 0, 0);
        z.node(BUF, 0, 0, 0);
        z.node(INV, 0, 0, 0);
        z.node(NOR, 1, 2, 0);
        z.node(OUT, 3, 0, 0);
        // FLOP of 2.0: 3.5, 2.625; BUF and INV of 1.5: 1.375, 1.03125; NOR of 3.0: 1.75, 1.3125.
        // NOR RISE: FALL of BUF 3.65625 or of INV 4.53125; NOR FALL: RISE of BUF 4.875 or of INV 4.0.
        same("23 rise by inv", z.arrival(0, 3, 0, true, true), 4.53125 + 1.75);
        same("23 fall by buf", z.arrival(0, 3, 0, true, false), 4.875 + 1.3125);
        same("23 rise is greater: by inv", z.worst(4, 1), 2);
        z.size(3, 4);
        // NOR by 4: 0.4375, 0.328125; BUF and INV of 3.0: 1.75, 1.3125. RISE: 3.5 + 1.3125 + 0.4375; FALL: 3.5 + 1.75 + 0.328125.
        same("23 fall is greater: by buf", z.worst(4, 1), 1);
        promise23Same();
        promise23Corner();
    }

    private static void promise23Same() {
        SlackHall x = new SlackHall();
        x.clock(10, 0, 0, 0);
        x.node(FLOP, 0, 0, 0);
        x.node(BUF, 0, 0, 0);
        x.node(INV, 0, 0, 0);
        x.node(NOR, 1, 2, 0);
        x.node(LATCH, 3, 0, 0);
        // As above, but the NOR has a LOAD of 1.5: 1.375, 1.03125.
        same("23 rise", x.arrival(0, 3, 0, true, true), 5.90625);
        same("23 fall, the same", x.arrival(0, 3, 0, true, false), 5.90625);
        same("23 rise of both: by inv", x.worst(4, 1), 2);
    }

    private static void promise23Corner() {
        SlackHall x = new SlackHall();
        x.clock(10, 8, 0, 0);
        x.clock(10, 8, 0, 0);
        x.corner(16, 8);
        x.node(FLOP, 0, 0, 0);
        x.node(FLOP, 0, 0, 1);
        x.node(XOR, 0, 1, 0);
        x.node(OUT, 2, 0, 0);
        x.wire(0, 5);
        // The CREDIT of 2.0 helps the START 0 in the CORNER 1 alone.
        same("23 other start in the corner 1", x.leftAt(3, 1, true), x.left(1, 3, 1, true));
        same("23 in the corner 0", x.worst(3, 1), 0);
    }

    private static void promise24Many() {
        SlackHall x = chain();
        x.clock(10, 0, 0, 1);
        x.corner(16, 8);
        x.exception(2, NONE, NONE);
        int in = x.node(FLOP, 0, 0, 1);
        x.feed(in, 2);
        int gate = x.node(BUF, 2, 0, 0);
        int far = x.node(FLOP, 0, 0, 1);
        x.feed(far, gate);
        x.knock();
        // CHECKED: 0 with 2, 2 with 4. CROSSINGS: 2 with 5 (SAFE), 2 with 7 (not so: it goes through a gate).
        int[] due = {2, 2, 8, 1, 2, 0, 0, 2, 1, 0, 1};
        for (int what = 0; what <= 10; what++) {
            same("24 many(" + what + ")", x.many(what), due[what]);
        }
        x.sign(true);
        same("24 signed", x.many(9), 1);
        isArgument("24 what 11", x, () -> x.many(11));
        isArgument("24 what -1", x, () -> x.many(-1));
        SlackHall y = latches(40, 80);
        same("24 late ends", y.many(5), 1);
        same("24 early ends", y.many(6), 0);
        y.skew(3, 20);
        y.corner(16, 1);
        same("24 late ends in some corner", y.many(5), 2);
        same("24 early ends in some corner", y.many(6), 1);
        SlackHall z = new SlackHall();
        z.clock(10, 0, 0, 0);
        z.clock(10, 0, 0, 1);
        z.node(FLOP, 0, 0, 0);
        z.node(LATCH, 0, 0, 1);
        z.node(OUT, 0, 0, 1);
        z.node(IN, 0, 0, 1);
        z.feed(0, 3);
        same("24 crossings of all kinds", z.many(7), 3);
        same("24 none safe", z.many(8), 0);
        z.exception(0, NONE, NONE);
        same("24 false ones cross", z.many(7), 3);
        same("24 without checks", z.many(5), 0);
    }

    private static void promise25Least() {
        SlackHall x = chain();
        same("25 late", x.least(true), 10.0 - 0.5 - 4.6875);
        same("25 early", x.least(false), 1.03125 - 1.0);
        x.corner(12, 4);
        same("25 late in a corner", x.least(true), x.leftAt(4, 1, true));
        same("25 early in a corner", x.least(false), x.leftAt(2, 1, false));
        x.exception(0, NONE, NONE);
        same("25 free", x.least(true), FREE);
        same("25 free, early", x.least(false), FREE);
    }

    private static void promise26WouldLeave() {
        SlackHall x = chain();
        x.corner(12, 4);
        long before = x.digest();
        double now = x.least(true);
        // INV of 4: 0.4375, 0.328125; FLOP of 3.0 then: 3.75, 2.8125.
        double late = 1.5 * (3.75 + 0.328125);
        same("26 with 4", x.wouldLeave(3, 4), 10.0 - 0.5 + 0.5 - 1.5 + 1.0 - late);
        same("26 with 1 as now", x.wouldLeave(3, 1), now);
        same("26 least stays", x.least(true), now);
        same("26 size stays", x.ofNode(3, 4), 1);
        same("26 all stays", x.digest(), before);
        x.sign(true);
        same("26 signed", x.wouldLeave(3, 1), now);
        isIndex("26 node 5, ahead of size", x, () -> x.wouldLeave(5, 3));
        isArgument("26 size 3", x, () -> x.wouldLeave(3, 3));
        SlackHall y = latches(40, 4);
        double would = y.wouldLeave(1, 4);
        y.size(1, 4);
        same("26 what comes true", y.least(true), would);
    }

    private static void promise27Best() {
        SlackHall x = chain();
        double now = x.least(true);
        double greatest = now;
        int best = NONE;
        for (int node = 0; node < 5; node++) {
            for (int size = 0; size < 3; size++) {
                if (x.wouldLeave(node, 1 << size) > greatest) {
                    greatest = x.wouldLeave(node, 1 << size);
                    best = 4 * node + size;
                }
            }
        }
        same("27 the greatest", x.best(), best);
        same("27 is the flop by 4", best, 10);
        SlackHall y = new SlackHall();
        same("27 no node", y.best(), NONE);
        y.clock(10, 0, 0, 0);
        y.node(IN, 0, 0, 0);
        y.node(OUT, 0, 0, 0);
        same("27 none is greater", y.best(), NONE);
        SlackHall z = new SlackHall();
        z.clock(10, 0, 0, 0);
        z.node(FLOP, 0, 0, 0);
        z.feed(0, 0);
        // Its LOAD is 1.0 and half its SIZE: it takes 1.375, 1.5 / 2 or 1.75 / 4, and 2.0 more.
        same("27 a flop alone", z.best(), 2);
        z.size(0, 4);
        same("27 is best already", z.best(), NONE);
        promise27Same();
    }

    private static void promise27Same() {
        SlackHall x = new SlackHall();
        x.clock(10, 0, 0, 0);
        x.node(IN, 0, 0, 0);
        x.node(AND, 0, 0, 0);
        x.node(AND, 0, 0, 0);
        x.node(OUT, 1, 0, 0);
        x.node(OUT, 2, 0, 0);
        same("27 one of two alike is not enough", x.best(), NONE);
        x.exception(0, NONE, 3);
        same("27 the one that counts", x.best(), 10);
        SlackHall y = new SlackHall();
        y.clock(10, 0, 0, 0);
        y.node(IN, 0, 0, 0);
        y.node(BUF, 0, 0, 0);
        y.node(BUF, 0, 0, 0);
        y.node(OUT, 1, 0, 0);
        y.wire(1, 8);
        y.size(2, 4);
        same("27 4 ahead of 2", y.best(), 6);
    }

    private static void promise28IsIdle() {
        SlackHall x = chain();
        same("28 one corner", x.isIdle(0), false);
        x.corner(12, 4);
        same("28 the mild one", x.isIdle(0), true);
        same("28 the hard one", x.isIdle(1), false);
        x.corner(12, 4);
        same("28 the same, smaller number", x.isIdle(1), false);
        same("28 the same, greater number", x.isIdle(2), true);
        SlackHall y = chain();
        y.corner(9, 8);
        y.corner(8, 7);
        same("28 late alone", y.isIdle(1), false);
        same("28 early alone", y.isIdle(2), false);
        same("28 no more in both", y.isIdle(0), true);
        SlackHall z = new SlackHall();
        z.corner(16, 1);
        same("28 no ends, 0", z.isIdle(0), false);
        same("28 no ends, 1", z.isIdle(1), true);
        isIndex("28 corner 2", z, () -> z.isIdle(2));
        isIndex("28 corner -1", z, () -> z.isIdle(-1));
    }

    private static void promise29Digest() {
        SlackHall x = chain();
        x.knock();
        long d = 9604;
        long[] due = {1, 1, 5, 0, 2, 0, 0, 0, 0, 0, 1, 10, 4, 2, 0, 0,
            0, -1, -1, 0, 1, 1, 0, 96,
            1, 0, -1, -1, 1, 1, 0, 96,
            6, 1, -1, 0, 1, 1, 0, 96, 456, 2, 1,
            2, 2, -1, -1, 1, 1, 0, 192,
            8, 3, -1, 0, 1, 0, 0, 64, 308, 242, 3,
            10};
        for (long v : due) {
            d = d * 31 + v;
        }
        same("29 of a chain", x.digest(), d);
        same("29 again", x.digest(), d);
        same("29 of nothing", new SlackHall().digest(), 1549124912602722884L);
    }

    public static void main(String[] args) {
        promise1NewObject();
        promise2Clock();
        promise3Divide();
        promise4Corner();
        promise5Node();
        promise6Feed();
        promise7Size();
        promise8Wire();
        promise9Skew();
        promise10Exception();
        promise11Sign();
        promise12Knock();
        promise13OfClock();
        promise14OfNode();
        promise15Load();
        promise16Takes();
        promise17Arrival();
        promise18Winner();
        promise19Left();
        promise20LeftAt();
        promise21Borrow();
        promise22Ways();
        promise23Worst();
        promise24Many();
        promise25Least();
        promise26WouldLeave();
        promise27Best();
        promise28IsIdle();
        promise29Digest();
        System.out.println(asked + " asked, " + wrong + " wrong");
        if (wrong != 0) {
            System.exit(1);
        }
    }
}
