import java.io.IOException;

/** The sentences of promises 22 to 25 that name a boundary: WAYS, the worst of them, how many, and the least. */
public final class Promises22To25Test extends Sentences {

    /** The longest WAY there can be: from the FLOP 0 through 15 XORS to itself. */
    private static SlackHall ring() {
        SlackHall x = longest();
        x.feed(0, 15);
        return x;
    }

    /** 0 FLOP, 1 BUF of it, 2 INV of it, 3 NOR of both: its RISE (by the INV) and FALL (by the BUF) are the same. */
    private static SlackHall evenEdges() {
        SlackHall x = clocked();
        x.node(FLOP, 0, 0, 0);
        x.node(BUF, 0, 0, 0);
        x.node(INV, 0, 0, 0);
        x.node(NOR, 1, 2, 0);
        return x;
    }

    private static void goesBack(String what, SlackHall x, int end, int... nodes) {
        for (int back = 0; back < nodes.length; back++) {
            same(what + ", back " + back, x.worst(end, back), nodes[back]);
        }
    }

    private static void isAll(String what, SlackHall x, int... due) {
        for (int i = 0; i < due.length; i++) {
            same(what + ", many(" + i + ")", x.many(i), due[i]);
        }
    }

    // ---- promise 22

    @Sentence(promise = 22, says = "Returns how many WAYS there are from one to the other.")
    static void fromNoneToTheMost() {
        SlackHall x = longest();
        same("a FLOP without FEED", x.ways(0, 0), 0);
        x.feed(0, 0);
        same("a FLOP that feeds itself", x.ways(0, 0), 1);
        x.feed(0, 15);
        same("through 15 gates, by each of both FEEDS", x.ways(0, 0), 32768);
        SlackHall y = kinds();
        same("no way to a START ahead", y.ways(7, 6), 0);
        same("none through a START", y.ways(0, 8), 0);
        same("one without a gate", y.ways(7, 8), 1);
        same("none to itself", y.ways(7, 7), 0);
    }

    @Sentence(promise = 22, says = "by which FEED it comes into a NODE, matters.")
    static void eachFeedCounts() {
        // 1 has one WAY, 2 one; 3 has those of 1 and 2, 4 those of 3 and 1, 5 those of 4 and 2.
        same("2 and 1 and 1", kinds().ways(0, 7), 4);
        SlackHall x = clocked();
        x.node(IN, 0, 0, 0);
        x.node(IN, 0, 0, 0);
        x.node(AND, 0, 1, 0);
        x.node(NOR, 2, 2, 0);
        x.node(XOR, 3, 0, 0);
        x.node(OUT, 4, 0, 0);
        same("from 0", x.ways(0, 5), 3);
        same("from 1", x.ways(1, 5), 2);
    }

    @Sentence(promise = 22, says = "to the FEED of an END (which may be the START itself)")
    static void whatIsNotCheckedHasWaysToo() {
        SlackHall x = clocked();
        x.clock(10, 0, 0, 1);
        int flop = inToFlop(x, 0, 1);
        same("unlike groups", x.ways(0, flop), 1);
        x.exception(0, NONE, NONE);
        same("a FALSE one", x.ways(0, flop), 1);
        x.feed(flop, flop);
        same("itself", x.ways(flop, flop), 1);
        same("no more of 0", x.ways(0, flop), 0);
    }

    @Sentence(promise = 22, says = "Throws IndexOutOfBoundsException if there is no such NODE, of both")
    static void startAndEndMustBeThere() {
        numbers(Sentences::kinds, "start", 0, 9, (x, start) -> x.ways(start, 7));
        numbers(Sentences::kinds, "end", 0, 9, (x, end) -> x.ways(0, end));
        numbers(Sentences::kinds, "start, ahead of no end", 0, 9, (x, start) -> x.ways(start, 0));
        numbers(Sentences::kinds, "end, ahead of no start", 0, 9, (x, end) -> x.ways(8, end));
        isIndex(SlackHall::new, "on an empty chip", x -> x.ways(0, 0));
    }

    @Sentence(promise = 22, says = "Throws IllegalArgumentException if start is no START,"
            + " or end is no FLOP, LATCH or OUT")
    static void startAndEndAreSuch() {
        startsAlone("start", (x, start) -> x.ways(start, 7));
        endsAlone("end", (x, end) -> x.ways(0, end));
    }

    // ---- promise 23

    @Sentence(promise = 23, says = "back: how many NODES back, 0 at its FEED")
    static void theLongestWayBack() {
        goesBack("15 gates", ring(), 0, 15, 14, 13, 12, 11, 10, 9, 8, 7, 6, 5, 4, 3, 2, 1, 0);
        goesBack("of a LATCH", lender(4, 0), 2, 1, 0, NONE);
        goesBack("of an OUT", chain(), 4, 3, 2, NONE);
    }

    @Sentence(promise = 23, says = "NONE behind the START, or if nothing is CHECKED there.")
    static void noneBehindTheStart() {
        SlackHall x = clocked();
        x.node(FLOP, 0, 0, 0);
        x.feed(0, 0);
        goesBack("a FLOP that feeds itself", x, 0, 0, NONE, NONE, NONE);
        same("15 back", x.worst(0, 15), NONE);
        SlackHall y = chain();
        y.feed(2, 3);
        goesBack("a START with a FEED", y, 4, 3, 2, NONE, NONE);
        goesBack("a gate round a FLOP", y, 2, 3, 2, NONE, NONE);
    }

    @Sentence(promise = 23, says = "or if nothing is CHECKED there.")
    static void noneIfNothingIsChecked() {
        goesBack("no FEED", kinds(), 6, NONE, NONE);
        SlackHall x = clocked();
        x.clock(10, 0, 0, 1);
        goesBack("unlike groups", x, inToFlop(x, 0, 1), NONE, NONE);
        int flop = inToFlop(x, 0, 0);
        goesBack("like groups", x, flop, 2, NONE);
        x.exception(0, 2, flop);
        goesBack("a FALSE one", x, flop, NONE, NONE);
    }

    @Sentence(promise = 23, says = "of the START with the least left() for the late (of several the smallest number)")
    static void theSmallestNumberOfSeveral() {
        int[] skews = {9, 10, 13, 14, 15, 20};
        int[] starts = {1, 0, 0, 0, 1, 1};
        for (int i = 0; i < skews.length; i++) {
            goesBack("as is lent by " + skews[i], lenderOfTwo(skews[i]), 3, 2, starts[i], NONE);
        }
        SlackHall x = clocked();
        x.node(FLOP, 0, 0, 0);
        x.node(FLOP, 0, 0, 0);
        x.node(XOR, 1, 0, 0);
        x.node(OUT, 2, 0, 0);
        goesBack("two alike", x, 3, 2, 0, NONE);
        x.wire(1, 5);
        goesBack("the later is worse", x, 3, 2, 1, NONE);
        x.exception(0, 1, NONE);
        goesBack("the worse is not checked", x, 3, 2, 0, NONE);
        x.exception(2, 1, 3);
        goesBack("a MULTI does not help it", x, 3, 2, 0, NONE);
    }

    @Sentence(promise = 23, says = "by the edge with the greater ARRIVAL (RISE, if both are the same)")
    static void riseIfBothEdgesAreTheSame() {
        SlackHall x = evenEdges();
        x.node(LATCH, 3, 0, 0);
        same("the edges", x.arrival(0, 3, 0, true, true), x.arrival(0, 3, 0, true, false));
        goesBack("the same", x, 4, 3, 2, 0, NONE);
        x.wire(1, 5);
        goesBack("FALL is greater", x, 4, 3, 1, 0, NONE);
        x.wire(2, 5);
        goesBack("RISE is not as great", x, 4, 3, 1, 0, NONE);
        x.wire(1, 4);
        goesBack("RISE is greater", x, 4, 3, 2, 0, NONE);
    }

    @Sentence(promise = 23, says = "(of several the first FEED, then RISE)")
    static void theFirstFeedOfSeveral() {
        for (int first = 1; first <= 2; first++) {
            SlackHall x = clocked();
            x.node(FLOP, 0, 0, 0);
            x.node(BUF, 0, 0, 0);
            x.node(BUF, 0, 0, 0);
            x.node(AND, first, 3 - first, 0);
            x.node(OUT, 3, 0, 0);
            goesBack("first FEED " + first, x, 4, 3, first, 0, NONE);
            x.wire(3 - first, 5);
            goesBack("the other FEED is later", x, 4, 3, 3 - first, 0, NONE);
        }
    }

    @Sentence(promise = 23, says = "(of several the first FEED, then RISE)")
    static void riseOfOneFeed() {
        SlackHall x = evenEdges();
        x.node(XOR, 3, 0, 0);
        x.node(OUT, 4, 0, 0);
        same("the edges", x.arrival(0, 3, 0, true, true), x.arrival(0, 3, 0, true, false));
        goesBack("RISE of the NOR", x, 5, 4, 3, 2, 0, NONE);
    }

    @Sentence(promise = 23, says = "(of several the first FEED, then RISE)")
    static void theFirstFeedGoesAheadOfRise() {
        for (int first = 1; first <= 2; first++) {
            SlackHall x = clocked();
            x.node(FLOP, 0, 0, 0);
            x.node(INV, 0, 0, 0);
            x.node(BUF, 0, 0, 0);
            x.node(XOR, first, 3 - first, 0);
            x.node(OUT, 3, 0, 0);
            x.wire(1, 14);
            x.wire(2, 6);
            // The INV has a LOAD of 4.0 and falls in 1.5, the BUF has one of 2.0 and rises in 1.5.
            same("both", x.arrival(0, 1, 0, true, false), x.arrival(0, 2, 0, true, true));
            goesBack("first FEED " + first, x, 4, 3, first, 0, NONE);
        }
    }

    @Sentence(promise = 23, says = "in the CORNER 0, for the late")
    static void anotherCornerDoesNotMatter() {
        SlackHall x = new SlackHall();
        x.clock(10, 8, 0, 0);
        x.clock(10, 8, 0, 0);
        x.corner(16, 8);
        x.node(FLOP, 0, 0, 0);
        x.node(FLOP, 0, 0, 1);
        x.node(XOR, 0, 1, 0);
        x.node(OUT, 2, 0, 0);
        x.wire(0, 5);
        // The FLOP 0 takes 0.0625 more; in the CORNER 1 its root, which is that of the OUT, is worth 2.0.
        same("0 in the corner 0", x.left(0, 3, 0, true), x.left(1, 3, 0, true) - 0.0625);
        same("1 in the corner 1", x.left(0, 3, 1, true), x.left(1, 3, 1, true) - 0.125 + 2.0);
        same("1 for the early", x.leftAt(3, 0, false), x.left(1, 3, 0, false));
        goesBack("0", x, 3, 2, 0, NONE);
    }

    @Sentence(promise = 23, says = "Throws IndexOutOfBoundsException if there is no such NODE")
    static void theEndMustBeThere() {
        numbers(Sentences::kinds, "end", 0, 9, (x, end) -> x.worst(end, 0));
        numbers(Sentences::kinds, "end, ahead of back", 0, 9, (x, end) -> x.worst(end, 16));
        isIndex(SlackHall::new, "on an empty chip", x -> x.worst(0, 0));
    }

    @Sentence(promise = 23, says = "Throws IllegalArgumentException if end is no FLOP, LATCH or OUT,"
            + " or back not 0 to 15")
    static void backIsZeroToFifteen() {
        bounds(Sentences::kinds, "back", 0, 15, (x, back) -> x.worst(7, back));
        bounds(Sentences::kinds, "back without FEED", 0, 15, (x, back) -> x.worst(6, back));
        endsAlone("end, 0 back", (x, end) -> x.worst(end, 0));
        endsAlone("end, 15 back", (x, end) -> x.worst(end, 15));
    }

    // ---- promise 24

    @Sentence(promise = 24, says = "Throws IllegalArgumentException if what is not 0 to 10")
    static void whatIsZeroToTen() {
        bounds(SlackHall::new, "what", 0, 10, (x, what) -> x.many(what));
        bounds(signed(Sentences::kinds), "what, signed", 0, 10, (x, what) -> x.many(what));
    }

    @Sentence(promise = 24, says = "0 CLOCKS, 1 CORNERS, 2 NODES, 3 EXCEPTIONS")
    static void allRowsAreFull() {
        isAll("a new one", new SlackHall(), 0, 1, 0, 0, 0, 0, 0, 0, 0, 0, 0);
        SlackHall x = ring();
        x.divide(0, 2, 0);
        x.clock(10, 0, 0, 0);
        x.clock(10, 0, 0, 1);
        x.corner(16, 1);
        x.corner(16, 8);
        for (int i = 0; i < 6; i++) {
            x.exception(4, NONE, NONE);
        }
        isAll("a full one", x, 4, 3, 16, 6);
    }

    @Sentence(promise = 24, says = "4 STARTS and ENDS that are CHECKED (pairs)")
    static void pairsThatAreChecked() {
        SlackHall x = kinds();
        same("0 and 7, 7 and 8", x.many(4), 2);
        x.feed(6, 6);
        same("6 and itself", x.many(4), 3);
        x.feed(6, 5);
        same("0 and 6", x.many(4), 3);
        x.exception(4, NONE, NONE);
        same("a MULTI", x.many(4), 3);
        x.exception(0, 0, NONE);
        same("all but those of 0", x.many(4), 1);
        x.exception(0, NONE, NONE);
        same("none", x.many(4), 0);
        SlackHall y = clocked();
        y.clock(10, 0, 0, 1);
        inToFlop(y, 0, 1);
        same("unlike groups", y.many(4), 0);
        same("an END with the number 0", ring().many(4), 1);
        same("8 STARTS and 9 ENDS of 16 NODES", flopsOfAll().many(4), 72);
    }

    /** The FLOPS 0 to 7, the XORS 8 to 14 that take them in one by one, the LATCH 15; 14 feeds it and each FLOP. */
    private static SlackHall flopsOfAll() {
        SlackHall x = clocked();
        for (int flop = 0; flop < 8; flop++) {
            x.node(FLOP, 0, 0, 0);
        }
        x.node(XOR, 0, 1, 0);
        for (int gate = 9; gate < 15; gate++) {
            x.node(XOR, gate - 1, gate - 7, 0);
        }
        x.node(LATCH, 14, 0, 0);
        for (int flop = 0; flop < 8; flop++) {
            x.feed(flop, 14);
        }
        return x;
    }

    @Sentence(promise = 24, says = "5 ENDS with leftAt() for the late of less than 0.0 in some CORNER")
    static void exactlyNothingIsNotLess() {
        same("0.0 is left, as is lent", lenderOfTwo(10).many(5), 0);
        same("-0.25 is left", lenderOfTwo(9).many(5), 1);
        same("0.0 is left, and nothing lent", lender(4, 14).many(5), 0);
        SlackHall x = lender(4, 14);
        x.wire(1, 80);
        x.node(OUT, 1, 0, 0);
        same("two ENDS", x.many(5), 2);
        x.corner(16, 8);
        same("two CORNERS count one END once", x.many(5), 2);
        SlackHall y = lender(4, 14);
        y.corner(16, 8);
        same("in the corner 1 alone", y.many(5), 1);
        y.exception(0, NONE, NONE);
        same("nothing is checked", y.many(5), 0);
        // From 0: 3.375, 6 XORS with 1.375 and one with 2.5625, in all 14.1875; the LATCH borrows 5.0 alone.
        same("9 ENDS of 16 NODES, the first and the last, too", flopsOfAll().many(5), 9);
    }

    @Sentence(promise = 24, says = "6 likewise for the early")
    static void exactlyNothingIsNotLessEarly() {
        for (int latency = 1; latency <= 3; latency++) {
            SlackHall x = clocked();
            x.clock(10, latency, 0, 0);
            inToFlop(x, 1, 0);
            // What is left is the LATENCY of the IN, less 0.5.
            same("early with " + latency, x.many(6), latency < 2 ? 1 : 0);
            same("late with " + latency, x.many(5), 0);
            x.corner(8, 4);
            same("early in the corner 1 with " + latency, x.many(6), 1);
            x.node(OUT, 0, 0, 1);
            same("no OUT with " + latency, x.many(6), 1);
            x.exception(0, NONE, NONE);
            same("nothing is checked", x.many(6), 0);
        }
    }

    @Sentence(promise = 24, says = "6 likewise for the early")
    static void theFirstAndTheLastEndCount() {
        SlackHall x = clocked();
        x.corner(8, 1);
        x.node(FLOP, 0, 0, 0);
        x.feed(0, 0);
        // 0.75 times 3.375 by 8, less 0.5.
        same("the first, early", x.many(6), 1);
        same("the first, late", x.many(5), 0);
        for (int node = 1; node < 15; node++) {
            x.node(IN, 0, 0, 0);
        }
        x.node(LATCH, 14, 0, 0);
        same("the last, early", x.many(6), 2);
    }

    @Sentence(promise = 24, says = "A CROSSING is a START and an END of unlike GROUPS with an ARRIVAL there.")
    static void crossingsNeedUnlikeGroups() {
        SlackHall x = clocked();
        x.clock(10, 0, 0, 1);
        x.node(IN, 0, 0, 0);
        x.node(FLOP, 0, 0, 1);
        same("no FEED, no arrival", x.many(7), 0);
        x.feed(1, 0);
        same("0 and 1", x.many(7), 1);
        x.node(OUT, 0, 0, 0);
        same("not 0 and 2", x.many(7), 1);
        x.node(LATCH, 1, 0, 0);
        same("1 and 3", x.many(7), 2);
        x.exception(0, NONE, NONE);
        same("a FALSE one does not matter", x.many(7), 2);
        x.feed(1, 1);
        same("not 1 and 1", x.many(7), 1);
        SlackHall y = clocked();
        y.clock(10, 0, 0, 1);
        y.node(FLOP, 0, 0, 0);
        y.node(FLOP, 0, 0, 1);
        y.feed(0, 1);
        same("from the last to the first", y.many(7), 1);
        same("which is SAFE", y.many(8), 1);
    }

    @Sentence(promise = 24, says = "It is SAFE, if both are FLOPS, and the START is the FEED of the END.")
    static void onlyFromFlopToFlopIsSafe() {
        int[][] cases = {{FLOP, FLOP, 1}, {IN, FLOP, 0}, {LATCH, FLOP, 0}, {FLOP, LATCH, 0}, {FLOP, OUT, 0},
            {IN, OUT, 0}, {LATCH, LATCH, 0}};
        for (int[] one : cases) {
            SlackHall x = clocked();
            x.clock(10, 0, 0, 1);
            x.node(IN, 0, 0, 0);
            x.node(one[0], 0, 0, 0);
            x.node(one[1], 1, 0, 1);
            if (one[1] == FLOP) {
                x.feed(2, 1);
            }
            same("crossings of " + one[0] + " and " + one[1], x.many(7), 1);
            same("safe ones", x.many(8), one[2]);
        }
    }

    @Sentence(promise = 24, says = "and the START is the FEED of the END.")
    static void aGateBetweenIsNotSafe() {
        SlackHall x = clocked();
        x.clock(10, 0, 0, 1);
        x.node(FLOP, 0, 0, 0);
        x.node(FLOP, 0, 0, 1);
        x.node(BUF, 0, 0, 0);
        x.feed(1, 2);
        same("a BUF between", x.many(8), 0);
        same("it crosses", x.many(7), 1);
        x.feed(1, 0);
        same("none between", x.many(8), 1);
        x.exception(0, NONE, NONE);
        same("a FALSE one does not matter", x.many(8), 1);
        x.feed(0, 1);
        same("both ways", x.many(8), 2);
        x.feed(0, 0);
        x.feed(1, 1);
        same("like groups do not cross", x.many(8), 0);
    }

    @Sentence(promise = 24, says = "9 1 if it is SIGNED, otherwise 0, 10 how often it was REFUSED")
    static void signedAndRefused() {
        SlackHall x = kinds();
        same("open", x.many(9), 0);
        x.sign(true);
        x.sign(true);
        same("signed", x.many(9), 1);
        x.knock();
        x.knock();
        same("refused", x.many(10), 2);
        x.sign(false);
        same("open again", x.many(9), 0);
        same("refused still", x.many(10), 2);
    }

    // ---- promise 25

    @Sentence(promise = 25, says = "Returns the least that is left at any END in any CORNER; FREE without any.")
    static void freeWithoutAny() {
        SlackHall x = new SlackHall();
        same("an empty chip, late", x.least(true), FREE);
        same("an empty chip, early", x.least(false), FREE);
        x.corner(16, 1);
        x.clock(10, 0, 0, 0);
        x.clock(10, 0, 0, 1);
        x.node(IN, 0, 0, 0);
        x.node(FLOP, 0, 0, 1);
        same("no FEED", x.least(true), FREE);
        x.feed(1, 0);
        same("unlike groups, late", x.least(true), FREE);
        same("unlike groups, early", x.least(false), FREE);
        x.node(OUT, 0, 0, 0);
        same("an OUT, late", x.least(true), 10.0);
        same("an OUT, early", x.least(false), 0.0);
        x.exception(0, NONE, NONE);
        same("a FALSE one, late", x.least(true), FREE);
        same("a FALSE one, early", x.least(false), FREE);
    }

    @Sentence(promise = 25, says = "the least that is left at any END in any CORNER")
    static void theLeastOfEachEndAndCorner() {
        // Each of three CORNERS, and the first or the last END, may be that with the least.
        int[][] corners = {{8, 8, 8, 8}, {16, 8, 8, 8}, {8, 8, 16, 8}};
        double[] lates = {2.0, 4.0, 4.0};
        for (int i = 0; i < corners.length; i++) {
            for (int slow = 1; slow <= 2; slow++) {
                SlackHall x = clocked();
                x.corner(corners[i][0], corners[i][1]);
                x.corner(corners[i][2], corners[i][3]);
                x.node(IN, 0, 0, 0);
                x.node(BUF, 0, 0, 0);
                x.node(BUF, 0, 0, 0);
                x.node(OUT, 1, 0, 0);
                x.node(OUT, 2, 0, 0);
                x.wire(slow, 8);
                same("late of " + slow + " in case " + i, x.least(true), 10.0 - lates[i]);
                same("early of the other in case " + i, x.least(false), 0.75 * 1.75);
            }
        }
        SlackHall x = chain();
        x.corner(8, 4);
        same("early in the corner 1", x.least(false), x.leftAt(2, 1, false));
    }

    public static void main(String[] args) throws IOException, IllegalAccessException {
        run(Promises22To25Test.class, 22, 25);
    }
}
