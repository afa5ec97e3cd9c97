import java.io.IOException;

/** The sentences of promises 19 to 21 that name a boundary: what is left, and what a LATCH borrows. */
public final class Promises19To21Test extends Sentences {

    /** What is left for the late, when an IN of a CLOCK with the PERIOD ps feeds a FLOP of one with pe. */
    private static double leftWith(int ps, int pe, int multi) {
        SlackHall x = new SlackHall();
        x.clock(ps, 0, 0, 0);
        x.clock(pe, 0, 0, 0);
        int flop = inToFlop(x, 0, 1);
        if (multi > 1) {
            x.exception(multi, NONE, NONE);
        }
        return x.left(0, flop, 0, true);
    }

    private static void free(String what, SlackHall x, int start, int end) {
        same(what + ", late", x.left(start, end, 0, true), FREE);
        same(what + ", early", x.left(start, end, 0, false), FREE);
    }

    // ---- promise 19

    @Sentence(promise = 19, says = "Returns what is left; FREE, if they are not CHECKED.")
    static void freeWithoutAnArrival() {
        SlackHall x = kinds();
        free("a FLOP without FEED", x, 0, 6);
        free("a FLOP without FEED as both", x, 6, 6);
        x.feed(6, 6);
        free("no way from 0", x, 0, 6);
        same("a way from itself", x.left(6, 6, 0, true), 9.0 - 3.375);
        free("a LATCH and itself", x, 7, 7);
        free("a START between them", x, 0, 8);
    }

    @Sentence(promise = 19, says = "their CLOCKS are of the same GROUP")
    static void freeWithUnlikeGroups() {
        SlackHall x = clocked();
        x.clock(10, 0, 0, 1);
        x.divide(1, 2, 0);
        free("unlike groups", x, 0, inToFlop(x, 0, 1));
        free("unlike groups, divided", x, 2, inToFlop(x, 2, 0));
        same("the group 1", x.left(4, inToFlop(x, 1, 2), 0, true), 9.0);
        same("the group 0", x.left(6, inToFlop(x, 0, 0), 0, true), 9.0);
    }

    @Sentence(promise = 19, says = "and no FALSE exception wins")
    static void freeIfAFalseOneWins() {
        SlackHall x = clocked();
        int flop = inToFlop(x, 0, 0);
        int other = inToFlop(x, 0, 0);
        x.exception(4, 0, flop);
        x.exception(0, 2, NONE);
        same("a FALSE one elsewhere", x.left(0, flop, 0, true), 39.0);
        free("a FALSE one", x, 2, other);
        x.exception(2, 2, other);
        free("a FALSE one ahead of a later MULTI", x, 2, other);
        x.exception(0, NONE, NONE);
        free("a FALSE one everywhere", x, 0, flop);
    }

    @Sentence(promise = 19, says = "GAP is the greatest number that divides PS and PE")
    static void theGapDividesBoth() {
        int[][] cases = {{4, 4, 4}, {4, 5, 1}, {5, 4, 1}, {4, 40, 4}, {40, 4, 4}, {40, 40, 40}, {12, 9, 3}, {9, 12, 3},
            {39, 26, 13}, {34, 21, 1}, {36, 24, 12}, {7, 40, 1}, {40, 39, 1}};
        for (int[] one : cases) {
            same("of " + one[0] + " and " + one[1], leftWith(one[0], one[1], 1), one[2] - 1.0);
        }
        SlackHall x = new SlackHall();
        x.clock(40, 0, 0, 0);
        x.divide(0, 4, 0);
        x.divide(1, 4, 0);
        x.clock(33, 0, 0, 0);
        same("of 40 and 640", x.left(0, inToFlop(x, 0, 2), 0, true), 39.0);
        same("of 640 and 160", x.left(2, inToFlop(x, 2, 1), 0, true), 159.0);
        same("of 640 and 33", x.left(4, inToFlop(x, 2, 3), 0, true), 0.0);
        same("of 33 and 640", x.left(6, inToFlop(x, 3, 2), 0, true), 0.0);
    }

    @Sentence(promise = 19, says = "and with a MULTI exception of n that wins, (n less 1) times PE more")
    static void aMultiGivesPeriodsOfTheEnd() {
        for (int multi = 2; multi <= 4; multi++) {
            same("9 of 12 by " + multi, leftWith(12, 9, multi), 2.0 + (multi - 1) * 9.0);
            same("12 of 9 by " + multi, leftWith(9, 12, multi), 2.0 + (multi - 1) * 12.0);
        }
        SlackHall x = clocked();
        int flop = inToFlop(x, 0, 0);
        x.exception(2, 0, flop);
        x.exception(4, NONE, flop);
        same("only that which wins", x.left(0, flop, 0, true), 19.0);
        same("nothing for the early", x.left(0, flop, 0, false), -0.5);
    }

    @Sentence(promise = 19, says = "CREDIT (double) is 0.0 with unlike ROOTS, otherwise (LATE less EARLY)"
            + " times the smaller LATENCY of both CLOCKS.")
    static void creditOfLikeRoots() {
        SlackHall x = new SlackHall();
        x.clock(10, 40, 0, 0);
        x.divide(0, 2, 20);
        x.clock(10, 40, 0, 0);
        x.corner(16, 1);
        int divided = inToFlop(x, 0, 1);
        same("late", x.left(0, divided, 1, true), 10.0 - 1.0 + 15.0 * 0.125 - 10.0 * 2.0 + 1.875 * 10.0);
        same("early", x.left(0, divided, 1, false), 10.0 * 0.125 - 15.0 * 2.0 - 0.5 + 1.875 * 10.0);
        int root = inToFlop(x, 1, 0);
        same("the smaller of the end", x.left(2, root, 1, true), 9.0 + 1.25 - 30.0 + 18.75);
        same("early, the smaller of the end", x.left(2, root, 1, false), 1.875 - 20.0 - 0.5 + 18.75);
        int unlike = inToFlop(x, 2, 0);
        same("unlike roots, late", x.left(4, unlike, 1, true), 9.0 + 1.25 - 20.0);
        same("unlike roots, early", x.left(4, unlike, 1, false), 1.25 - 20.0 - 0.5);
        same("none in the corner 0", x.left(0, divided, 0, true), 9.0 + 15.0 - 10.0);
        x.skew(divided, 20);
        same("a skew gives no credit", x.left(0, divided, 1, true), 9.0 + 20.0 * 0.125 - 20.0 + 18.75);
    }

    @Sentence(promise = 19, says = "less 1.0 (0.0 for an OUT)")
    static void theLateOfAnOutIsLessNothing() {
        SlackHall x = kindsOfEnds();
        same("a LATCH", x.left(0, 1, 0, true), 9.0);
        same("an OUT", x.left(0, 2, 0, true), 10.0);
        same("a FLOP", x.left(0, 3, 0, true), 9.0);
    }

    @Sentence(promise = 19, says = "less 0.5 (0.0 for an OUT)")
    static void theEarlyOfAnOutIsLessNothing() {
        SlackHall x = kindsOfEnds();
        same("a LATCH", x.left(0, 1, 0, false), -0.5);
        same("an OUT", x.left(0, 2, 0, false), 0.0);
        same("a FLOP", x.left(0, 3, 0, false), -0.5);
    }

    private static SlackHall kindsOfEnds() {
        SlackHall x = clocked();
        x.node(IN, 0, 0, 0);
        x.node(LATCH, 0, 0, 0);
        x.node(OUT, 0, 0, 0);
        x.node(FLOP, 0, 0, 0);
        x.feed(3, 0);
        return x;
    }

    @Sentence(promise = 19, says = "With LS and LE being LATENCY and SKEW of START and END (SKEW 0.0 of IN and OUT)")
    static void skewsCountAtBothSides() {
        SlackHall x = new SlackHall();
        x.clock(10, 8, 0, 0);
        x.clock(10, 4, 0, 0);
        x.corner(12, 4);
        x.node(FLOP, 0, 0, 0);
        x.node(FLOP, 0, 0, 1);
        x.feed(1, 0);
        x.node(OUT, 0, 0, 1);
        x.skew(0, 20);
        x.skew(1, 1);
        // The FLOP 0 has a LOAD of 3.5: 3.875, 2.90625; LS is 7.0, LE of the FLOP 1.25, of the OUT 1.0.
        same("late", x.left(0, 1, 1, true), 9.0 + 1.25 * 0.5 - 7.0 * 1.5 - 1.5 * 3.875);
        same("early", x.left(0, 1, 1, false), 0.5 * 2.90625 + 7.0 * 0.5 - 1.25 * 1.5 - 0.5);
        same("late of an OUT", x.left(0, 2, 1, true), 10.0 + 1.0 * 0.5 - 7.0 * 1.5 - 1.5 * 3.875);
        same("early of an OUT", x.left(0, 2, 1, false), 0.5 * 2.90625 + 7.0 * 0.5 - 1.0 * 1.5);
        isArgument(Sentences::chain, "an IN has none", y -> y.skew(0, 1));
        isArgument(Sentences::chain, "an OUT has none", y -> y.skew(4, 1));
    }

    @Sentence(promise = 19, says = "less UNSURE of the END's CLOCK")
    static void onlyTheEndIsUnsure() {
        SlackHall x = clocked();
        x.clock(10, 0, 20, 0);
        int sure = inToFlop(x, 1, 0);
        int unsure = inToFlop(x, 0, 1);
        same("of the start", x.left(0, sure, 0, true), 9.0);
        same("of the start, early", x.left(0, sure, 0, false), -0.5);
        same("of the end", x.left(2, unsure, 0, true), 4.0);
        same("of the end, early", x.left(2, unsure, 0, false), -5.5);
        int out = x.node(OUT, 0, 0, 1);
        same("of an OUT", x.left(0, out, 0, true), 5.0);
    }

    @Sentence(promise = 19, says = "less the greater late ARRIVAL at the FEED (of RISE and FALL)")
    static void theGreaterOfRiseAndFall() {
        SlackHall x = clocked();
        x.node(FLOP, 0, 0, 0);
        x.node(INV, 0, 0, 0);
        x.node(OUT, 1, 0, 0);
        // The FLOP has a LOAD of 1.5: 3.375, 2.53125; the INV one of 3.0: 1.75, 1.3125.
        same("the FALL is the greater", x.left(0, 2, 0, true), 10.0 - 4.6875);
        same("the RISE is the smaller", x.left(0, 2, 0, false), 4.28125);
        x.size(0, 4);
        x.wire(1, 80);
        // FLOP: 1.375 / 4 + 2.0, 1.7578125; INV of 22.0: 9.5, 7.125.
        same("the RISE is the greater", x.left(0, 2, 0, true), 10.0 - 1.7578125 - 9.5);
        same("the FALL is the smaller", x.left(0, 2, 0, false), 2.34375 + 7.125);
    }

    @Sentence(promise = 19, says = "What is left there for the late is so much more for each START for which"
            + " something lacks, but 0.0 at most; for the others it stays.")
    static void whatIsLentIsMoreUpToNothing() {
        SlackHall y = lenderOfTwo(14);
        y.wire(2, 61);
        // The XOR takes 6.40625: of 6.5 is left 0.09375 for the first, and lacks 0.90625 for the second.
        same("hardly more than nothing stays", y.left(0, 3, 0, true), 0.09375);
        same("what lacks is lent", y.left(1, 3, 0, true), 0.0);
        int[] skews = {5, 6, 7, 13, 14, 15, 17, 18, 19};
        double[] firsts = {-0.25, 0.0, 0.0, 0.0, 0.0, 0.25, 0.75, 1.0, 1.25};
        double[] seconds = {-1.25, -1.0, -0.75, 0.0, 0.0, 0.0, 0.0, 0.0, 0.25};
        for (int i = 0; i < skews.length; i++) {
            SlackHall x = lenderOfTwo(skews[i]);
            same("the first by " + skews[i], x.left(0, 3, 0, true), firsts[i]);
            same("the second by " + skews[i], x.left(1, 3, 0, true), seconds[i]);
        }
        SlackHall x = lenderOfTwo(0);
        same("nothing is lent early", x.left(0, 3, 0, false), 0.75 * 6.5 - 0.5);
    }

    @Sentence(promise = 19, says = "Throws IndexOutOfBoundsException if there is no such NODE, of both, or CORNER")
    static void startEndAndCornerMustBeThere() {
        numbers(Sentences::kinds, "start", 0, 9, (x, start) -> x.left(start, 7, 0, true));
        numbers(Sentences::kinds, "end", 0, 9, (x, end) -> x.left(0, end, 0, false));
        numbers(Sentences::kinds, "corner", 0, 1, (x, corner) -> x.left(0, 7, corner, true));
        numbers(Sentences::kinds, "start of no end", 0, 9, (x, start) -> x.left(start, 0, 0, true));
        numbers(Sentences::kinds, "end of no start", 0, 9, (x, end) -> x.left(8, end, 0, true));
        numbers(Sentences::kinds, "corner of no start", 0, 1, (x, corner) -> x.left(1, 7, corner, true));
        numbers(Sentences::kinds, "corner of no end", 0, 1, (x, corner) -> x.left(0, 1, corner, true));
        isIndex(SlackHall::new, "on an empty chip", x -> x.left(0, 0, 0, true));
    }

    @Sentence(promise = 19, says = "Throws IllegalArgumentException if start is no START,"
            + " or end is no FLOP, LATCH or OUT")
    static void startAndEndAreSuch() {
        startsAlone("start", (x, start) -> x.left(start, 7, 0, true));
        endsAlone("end", (x, end) -> x.left(0, end, 0, true));
    }

    // ---- promise 20

    @Sentence(promise = 20, says = "What is left at an END in a CORNER is the least of all STARTS that are CHECKED"
            + " with it; FREE without one.")
    static void theLeastOfThoseThatAreChecked() {
        SlackHall x = lenderOfTwo(19);
        same("the second is the least", x.leftAt(3, 0, true), 0.25);
        x.exception(0, 1, NONE);
        same("the first alone", x.leftAt(3, 0, true), 1.25);
        x.exception(0, NONE, 3);
        same("none, late", x.leftAt(3, 0, true), FREE);
        same("none, early", x.leftAt(3, 0, false), FREE);
        SlackHall y = lenderOfTwo(5);
        same("with what is lent", y.leftAt(3, 0, true), -1.25);
        same("early, less of the first", y.leftAt(3, 0, false), 0.75 * 6.5 - 1.25 - 0.5);
    }

    @Sentence(promise = 20, says = "FREE without one.")
    static void freeWithoutAStart() {
        SlackHall x = kinds();
        same("a FLOP without FEED, late", x.leftAt(6, 0, true), FREE);
        same("a FLOP without FEED, early", x.leftAt(6, 0, false), FREE);
        x.clock(10, 0, 0, 1);
        int out = x.node(OUT, 5, 0, 1);
        same("unlike groups, late", x.leftAt(out, 0, true), FREE);
        same("unlike groups, early", x.leftAt(out, 0, false), FREE);
        x.feed(6, 6);
        same("not any more", x.leftAt(6, 0, true), 9.0 - 3.375);
    }

    @Sentence(promise = 20, says = "NODES: at most 16, numbered from 0")
    static void aFullRingOfFlops() {
        // Each FLOP is fed by the one before, and the first by the last; SKEWS are their numbers' quarters.
        SlackHall x = clocked();
        x.corner(12, 4);
        x.corner(16, 1);
        for (int flop = 0; flop < 16; flop++) {
            x.node(FLOP, 0, 0, 0);
            x.skew(flop, flop);
            x.wire(flop, flop % 8);
        }
        for (int flop = 0; flop < 16; flop++) {
            x.feed(flop, (flop + 15) % 16);
        }
        double[] lates = {1.0, 1.5, 2.0};
        double[] earlies = {1.0, 0.5, 0.125};
        for (int end = 0; end < 16; end++) {
            int start = (end + 15) % 16;
            double takes = 3.125 + 0.0625 * (start % 8);
            for (int corner = 0; corner < 3; corner++) {
                double late = lates[corner];
                double early = earlies[corner];
                same("late at " + end + " in " + corner, x.leftAt(end, corner, true),
                        9.0 + end * 0.25 * early - start * 0.25 * late - late * takes);
                same("early at " + end + " in " + corner, x.leftAt(end, corner, false),
                        0.75 * early * takes + start * 0.25 * early - end * 0.25 * late - 0.5);
            }
            same("worst of " + end, x.worst(end, 0), start);
            same("behind it", x.worst(end, 1), NONE);
        }
        same("pairs", x.many(4), 16);
    }

    @Sentence(promise = 20, says = "Throws IndexOutOfBoundsException if there is no such NODE, or CORNER")
    static void endAndCornerMustBeThere() {
        numbers(Sentences::kinds, "end", 0, 9, (x, end) -> x.leftAt(end, 0, true));
        numbers(Sentences::kinds, "corner", 0, 1, (x, corner) -> x.leftAt(7, corner, false));
        numbers(Sentences::kinds, "corner of no end", 0, 1, (x, corner) -> x.leftAt(0, corner, true));
        isIndex(SlackHall::new, "on an empty chip", x -> x.leftAt(0, 0, true));
    }

    @Sentence(promise = 20, says = "Throws IllegalArgumentException if end is no FLOP, LATCH or OUT")
    static void theEndIsSuch() {
        endsAlone("late end", (x, end) -> x.leftAt(end, 0, true));
        endsAlone("early end", (x, end) -> x.leftAt(end, 0, false));
    }

    // ---- promise 21

    @Sentence(promise = 21, says = "the greatest of what lacks for the late (0.0, if nothing does)")
    static void nothingLacks() {
        int[] skews = {12, 13, 14, 15, 20};
        double[] borrows = {0.5, 0.25, 0.0, 0.0, 0.0};
        double[] lefts = {0.0, 0.0, 0.0, 0.25, 1.5};
        for (int i = 0; i < skews.length; i++) {
            SlackHall x = lender(4, skews[i]);
            same("borrow by " + skews[i], x.borrow(2, 0), borrows[i]);
            same("left by " + skews[i], x.left(0, 2, 0, true), lefts[i]);
        }
    }

    @Sentence(promise = 21, says = "over all STARTS that are CHECKED with it, the greatest of what lacks")
    static void theGreatestOfAllStarts() {
        int[] skews = {19, 18, 17, 14, 11, 10, 9};
        double[] borrows = {0.0, 0.0, 0.25, 1.0, 1.75, 2.0, 2.0};
        for (int i = 0; i < skews.length; i++) {
            same("borrow by " + skews[i], lenderOfTwo(skews[i]).borrow(3, 0), borrows[i]);
        }
        SlackHall x = lenderOfTwo(13);
        x.exception(0, 1, 3);
        same("of the first alone", x.borrow(3, 0), 0.25);
        x.exception(0, 0, 3);
        same("of none", x.borrow(3, 0), 0.0);
        SlackHall y = lenderOfTwo(0);
        same("of both, with more that lacks", y.left(1, 3, 0, true), -2.5);
        y.exception(0, NONE, 3);
        same("of none any more", y.borrow(3, 0), 0.0);
    }

    @Sentence(promise = 21, says = "but 0.5 times its CLOCK's PERIOD at most")
    static void halfAPeriodAtMost() {
        int[] skews = {7, 6, 5, 0};
        double[] borrows = {1.75, 2.0, 2.0, 2.0};
        double[] lefts = {0.0, 0.0, -0.25, -1.5};
        for (int i = 0; i < skews.length; i++) {
            SlackHall x = lender(4, skews[i]);
            same("borrow by " + skews[i], x.borrow(2, 0), borrows[i]);
            same("left by " + skews[i], x.left(0, 2, 0, true), lefts[i]);
        }
        SlackHall x = lender(5, 0);
        x.wire(1, 64);
        // The BUF has a LOAD of 16.5 and takes 6.75: 2.75 lack.
        same("the half of 5 is no whole number", x.borrow(2, 0), 2.5);
        same("what lacks still", x.left(0, 2, 0, true), -0.25);
    }

    @Sentence(promise = 21, says = "its CLOCK's PERIOD at most")
    static void thePeriodOfTheLatchCounts() {
        SlackHall x = new SlackHall();
        x.clock(40, 0, 0, 0);
        x.clock(4, 0, 0, 0);
        x.node(IN, 0, 0, 0);
        x.node(BUF, 0, 0, 0);
        x.node(LATCH, 1, 0, 1);
        x.wire(1, 80);
        same("a LATCH of 4", x.borrow(2, 0), 2.0);
        x.node(IN, 0, 0, 1);
        x.node(BUF, 3, 0, 0);
        x.node(LATCH, 4, 0, 0);
        x.wire(4, 80);
        same("a LATCH of 40: all of 4.0 less 1.0 less 8.75", x.borrow(5, 0), 5.75);
    }

    @Sentence(promise = 21, says = "BORROW of a LATCH in a CORNER (double)")
    static void eachCornerHasItsOwn() {
        SlackHall x = lender(4, 14);
        x.corner(9, 8);
        x.corner(8, 4);
        same("1.0 and 1.0", x.borrow(2, 0), 0.0);
        same("1.125 and 1.0", x.borrow(2, 1), 0.125 * 6.5);
        same("1.0 and 0.5", x.borrow(2, 2), 0.5 * 3.5);
    }

    @Sentence(promise = 21, says = "over all STARTS that are CHECKED with it")
    static void whatIsBorrowedIsPassedOn() {
        SlackHall x = new SlackHall();
        x.clock(4, 0, 0, 0);
        x.node(IN, 0, 0, 0);
        x.node(LATCH, 0, 0, 0);
        x.node(LATCH, 1, 0, 0);
        x.node(LATCH, 2, 0, 0);
        // Each LATCH but the last has a LOAD of 1.5 and takes 3.375, which is 0.375 more than 4.0 less 1.0.
        same("the first borrows nothing", x.borrow(1, 0), 0.0);
        same("the second", x.borrow(2, 0), 0.375);
        same("the third", x.borrow(3, 0), 0.75);
        x.exception(0, 1, 2);
        same("the second is not checked", x.borrow(2, 0), 0.0);
        same("the third has its own", x.borrow(3, 0), 0.375);
    }

    @Sentence(promise = 21, says = "Throws IndexOutOfBoundsException if there is no such NODE, or CORNER")
    static void latchAndCornerMustBeThere() {
        numbers(Sentences::kinds, "latch", 0, 9, (x, latch) -> x.borrow(latch, 0));
        numbers(Sentences::kinds, "corner", 0, 1, (x, corner) -> x.borrow(7, corner));
        numbers(Sentences::kinds, "corner of no latch", 0, 1, (x, corner) -> x.borrow(6, corner));
        isIndex(SlackHall::new, "on an empty chip", x -> x.borrow(0, 0));
    }

    @Sentence(promise = 21, says = "Throws IllegalArgumentException if it is no LATCH")
    static void onlyALatchBorrows() {
        for (int kind = 0; kind <= 8; kind++) {
            int node = kind;
            if (kind != LATCH) {
                isArgument(Sentences::kinds, "kind " + kind, x -> x.borrow(node, 0));
            }
        }
        fits(Sentences::kinds, "a LATCH", x -> x.borrow(7, 0));
    }

    public static void main(String[] args) throws IOException, IllegalAccessException {
        run(Promises19To21Test.class, 19, 21);
    }
}
