import java.io.IOException;

/** The sentences of promises 17 and 18 that name a boundary: ARRIVALS, and the EXCEPTION that wins. */
public final class Promises17To18Test extends Sentences {

    /** The FLOPS 0 and 1 (LOADS of 2.0 and 1.5); 2 BUF of 0, and then a gate of that KIND of the BUF and of 1. */
    private static SlackHall twoStarts(int kind) {
        SlackHall x = clocked();
        x.node(FLOP, 0, 0, 0);
        x.node(FLOP, 0, 0, 0);
        x.node(BUF, 0, 0, 0);
        x.node(kind, 2, 1, 0);
        x.node(OUT, 3, 0, 0);
        x.node(BUF, 0, 0, 0);
        return x;
    }

    /** The FLOP 0 (a LOAD of 2.0: 3.5, 2.625), 1 BUF of it (1.5: 1.375, 1.03125), 2 a gate of both, 3 OUT. */
    private static SlackHall twoFeeds(int kind) {
        SlackHall x = clocked();
        x.node(FLOP, 0, 0, 0);
        x.node(BUF, 0, 0, 0);
        x.node(kind, 0, 1, 0);
        x.node(OUT, 2, 0, 0);
        return x;
    }

    private static void arrives(SlackHall x, int start, int node, double[] due) {
        same("late rise", x.arrival(start, node, 0, true, true), due[0]);
        same("late fall", x.arrival(start, node, 0, true, false), due[1]);
        same("early rise", x.arrival(start, node, 0, false, true), due[2]);
        same("early fall", x.arrival(start, node, 0, false, false), due[3]);
    }

    private static void arrivesNowhere(SlackHall x, int start, int node) {
        arrives(x, start, node, new double[] {-1.0, -1.0, -1.0, -1.0});
    }

    // ---- promise 17

    @Sentence(promise = 17, says = "at the START itself: for late ones of a LATCH its BORROW,"
            + " and then LATE (EARLY) times what that edge takes there")
    static void atTheStartItself() {
        SlackHall x = kinds();
        x.corner(16, 4);
        same("an IN", x.arrival(0, 0, 0, true, true), 0.0);
        same("an IN in the corner 1", x.arrival(0, 0, 1, true, false), 0.0);
        same("a FLOP without FEED, late", x.arrival(6, 6, 1, true, true), 2.0 * 3.25);
        same("a FLOP without FEED, early", x.arrival(6, 6, 1, false, false), 0.5 * 0.75 * 3.25);
        x.feed(6, 6);
        same("a FLOP that feeds itself, once", x.arrival(6, 6, 0, true, true), 3.375);
        same("a LATCH that borrows nothing", x.arrival(7, 7, 0, true, true), 3.75);
    }

    @Sentence(promise = 17, says = "(the BORROW is not multiplied)")
    static void theBorrowIsNotMultiplied() {
        SlackHall x = lender(4, 0);
        x.corner(16, 4);
        // The LATCH has a LOAD of 1.0, and lacks more than the half of 4 in both CORNERS.
        same("in the corner 0", x.arrival(2, 2, 0, true, true), 2.0 + 3.25);
        same("in the corner 1", x.arrival(2, 2, 1, true, true), 2.0 + 2.0 * 3.25);
        same("it falls", x.arrival(2, 2, 1, true, false), 2.0 + 2.0 * 0.75 * 3.25);
    }

    @Sentence(promise = 17, says = "for late ones of a LATCH its BORROW")
    static void anEarlyOneBorrowsNothing() {
        SlackHall x = lender(4, 0);
        x.node(BUF, 2, 0, 0);
        x.node(OUT, 3, 0, 0);
        same("at the start", x.arrival(2, 2, 0, false, true), 3.375);
        same("behind it", x.arrival(2, 3, 0, false, true), 3.375 + 1.75);
        same("a late one behind it", x.arrival(2, 3, 0, true, true), 2.0 + 3.375 + 1.75);
    }

    @Sentence(promise = 17, says = "the greatest (smallest) ARRIVAL at its FEEDS of an edge that can make this one,"
            + " and LATE (EARLY) times what this edge takes.")
    static void theGreatestAndTheSmallestAtItsFeeds() {
        // The gate has a LOAD of 3.0: 1.75, 1.3125.
        arrives(twoFeeds(AND), 0, 2, new double[] {4.875 + 1.75, 3.65625 + 1.3125, 3.5 + 1.75, 2.625 + 1.3125});
        SlackHall x = clocked();
        x.node(FLOP, 0, 0, 0);
        x.node(BUF, 0, 0, 0);
        x.node(AND, 1, 0, 0);
        x.node(OUT, 2, 0, 0);
        arrives(x, 0, 2, new double[] {4.875 + 1.75, 3.65625 + 1.3125, 3.5 + 1.75, 2.625 + 1.3125});
        x.corner(12, 2);
        same("late, all times 1.5", x.arrival(0, 2, 1, true, true), 1.5 * 6.625);
        same("early, all times 0.25", x.arrival(0, 2, 1, false, true), 0.25 * 5.25);
    }

    @Sentence(promise = 17, says = "BUF and AND make RISE of RISE, and FALL of FALL; INV and NOR the other way;"
            + " XOR of any.")
    static void whichEdgeMakesWhich() {
        arrives(twoFeeds(BUF), 0, 2, new double[] {3.5 + 1.75, 2.625 + 1.3125, 3.5 + 1.75, 2.625 + 1.3125});
        // Without a second FEED the FLOP 0 has a LOAD of 2.0 as well: 1 and 2 are fed by it.
        arrives(twoFeeds(INV), 0, 2, new double[] {2.625 + 1.75, 3.5 + 1.3125, 2.625 + 1.75, 3.5 + 1.3125});
        arrives(twoFeeds(NOR), 0, 2, new double[] {3.65625 + 1.75, 4.875 + 1.3125, 2.625 + 1.75, 3.5 + 1.3125});
        arrives(twoFeeds(XOR), 0, 2, new double[] {4.875 + 1.75, 4.875 + 1.3125, 2.625 + 1.75, 2.625 + 1.3125});
    }

    @Sentence(promise = 17, says = "There is none, if no WAY comes there")
    static void onlyTheFeedWithAnArrivalCounts() {
        // 0 has a LOAD of 2.0: 3.5, 2.625; the BUF 2 one of 1.5; the FLOP 1 one of 1.5: 3.375, 2.53125.
        SlackHall x = twoStarts(AND);
        arrives(x, 0, 3, new double[] {4.875 + 1.75, 3.65625 + 1.3125, 4.875 + 1.75, 3.65625 + 1.3125});
        arrives(x, 1, 3, new double[] {3.375 + 1.75, 2.53125 + 1.3125, 3.375 + 1.75, 2.53125 + 1.3125});
        arrivesNowhere(x, 1, 2);
        arrivesNowhere(x, 1, 5);
        arrivesNowhere(kinds(), 6, 5);
        arrivesNowhere(kinds(), 7, 0);
    }

    @Sentence(promise = 17, says = "(none at another START, or at an OUT, either)")
    static void noneAtAnotherStartOrAnOut() {
        SlackHall x = twoStarts(XOR);
        x.feed(1, 2);
        x.node(LATCH, 3, 0, 0);
        arrivesNowhere(x, 0, 1);
        arrivesNowhere(x, 0, 6);
        arrivesNowhere(x, 0, 4);
        arrivesNowhere(x, 1, 4);
        x.feed(1, 0);
        arrivesNowhere(x, 0, 1);
        SlackHall y = chain();
        arrivesNowhere(y, 0, 2);
        arrivesNowhere(y, 0, 3);
        arrivesNowhere(y, 2, 0);
        arrivesNowhere(y, 2, 1);
    }

    @Sentence(promise = 17, says = "Returns the ARRIVAL; -1.0 without one.")
    static void anArrivalOfNothingIsNotMinusOne() {
        SlackHall x = clocked();
        x.node(IN, 0, 0, 0);
        x.node(IN, 0, 0, 0);
        arrives(x, 0, 0, new double[] {0.0, 0.0, 0.0, 0.0});
        arrivesNowhere(x, 0, 1);
        arrivesNowhere(x, 1, 0);
    }

    @Sentence(promise = 17, says = "NODES: at most 16, numbered from 0")
    static void aFullChipKeepsAllApart() {
        // The FLOPS 0 to 7 with the WIRES 0.0 to 1.75; the XORS 8 to 14, in a row, take in 0 and 1, 2, 3 up to 7.
        SlackHall x = clocked();
        for (int start = 0; start < 8; start++) {
            x.node(FLOP, 0, 0, 0);
            x.wire(start, start);
        }
        x.node(XOR, 0, 1, 0);
        for (int gate = 9; gate < 15; gate++) {
            x.node(XOR, gate - 1, gate - 7, 0);
        }
        x.node(OUT, 14, 0, 0);
        for (int start = 0; start < 8; start++) {
            int first = start < 2 ? 8 : start + 7;
            for (int gate = 8; gate < 15; gate++) {
                // A FLOP takes 3.125 and 0.0625 for each quarter, a XOR 1.375, but the last one 1.75.
                double due = 3.125 + start * 0.0625 + (gate - first + 1) * 1.375 + (gate == 14 ? 0.375 : 0.0);
                same("of " + start + " at " + gate, x.arrival(start, gate, 0, true, true), gate < first ? -1.0 : due);
            }
            same("of " + start + " at the OUT", x.arrival(start, 15, 0, true, true), -1.0);
        }
        same("pairs", x.many(4), 8);
    }

    @Sentence(promise = 17, says = "Throws IndexOutOfBoundsException if there is no such NODE, of both, or CORNER")
    static void startNodeAndCornerMustBeThere() {
        numbers(Sentences::kinds, "start", 0, 9, (x, start) -> x.arrival(start, 0, 0, true, true));
        numbers(Sentences::kinds, "node", 0, 9, (x, node) -> x.arrival(0, node, 0, true, true));
        numbers(Sentences::kinds, "corner", 0, 1, (x, corner) -> x.arrival(0, 0, corner, true, true));
        numbers(Sentences::kinds, "node of no start", 0, 9, (x, node) -> x.arrival(1, node, 0, true, true));
        numbers(Sentences::kinds, "corner of no start", 0, 1, (x, corner) -> x.arrival(8, 0, corner, true, true));
        numbers(Promises17To18Test::threeCorners, "corner of three", 0, 3,
                (x, corner) -> x.arrival(0, 0, corner, false, true));
        fits(Promises17To18Test::threeCorners, "the last corner", x -> x.arrival(0, 0, 2, false, true));
        isIndex(SlackHall::new, "on an empty chip", x -> x.arrival(0, 0, 0, true, true));
    }

    private static SlackHall threeCorners() {
        SlackHall x = kinds();
        x.corner(12, 4);
        x.corner(16, 1);
        return x;
    }

    @Sentence(promise = 17, says = "Throws IllegalArgumentException if start is no START")
    static void theStartIsAStart() {
        startsAlone("start", (x, start) -> x.arrival(start, 1, 0, true, true));
        startsAlone("start at itself", (x, start) -> x.arrival(start, start, 0, false, false));
    }

    // ---- promise 18

    /** The EXCEPTION that wins for 0 and 7, of the two that are told in this order. */
    private static int winnerOf(int[] first, int[] second) {
        SlackHall x = kinds();
        x.exception(first[0], first[1], first[2]);
        x.exception(second[0], second[1], second[2]);
        return x.winner(0, 7);
    }

    private static void winsOver(int[] better, int[] worse) {
        same("told first", winnerOf(better, worse), 0);
        same("told later", winnerOf(worse, better), 1);
    }

    @Sentence(promise = 18, says = "Returns the EXCEPTION that wins; NONE without one.")
    static void noneWithoutOne() {
        SlackHall x = kinds();
        same("there are none", x.winner(0, 7), NONE);
        x.exception(0, 7, 8);
        same("the first is no NONE", x.winner(7, 8), 0);
        same("another start and end", x.winner(0, 7), NONE);
    }

    @Sentence(promise = 18, says = "For a START and an END one NAMES them, if both fit.")
    static void bothMustFit() {
        SlackHall x = kinds();
        x.exception(0, 7, 8);
        x.exception(0, 7, NONE);
        x.exception(0, NONE, 8);
        same("both", x.winner(7, 8), 0);
        same("the start alone", x.winner(7, 7), 1);
        same("the end alone", x.winner(0, 8), 2);
        same("neither", x.winner(0, 7), NONE);
        same("the one for the other", x.winner(6, 7), NONE);
    }

    @Sentence(promise = 18, says = "A FALSE one wins over each MULTI")
    static void aFalseOneThatNamesNothingWins() {
        for (int multi = 2; multi <= 4; multi++) {
            winsOver(new int[] {0, NONE, NONE}, new int[] {multi, 0, 7});
            winsOver(new int[] {0, NONE, NONE}, new int[] {multi, NONE, NONE});
            winsOver(new int[] {0, NONE, 7}, new int[] {multi, 0, NONE});
        }
    }

    @Sentence(promise = 18, says = "that which names more of both by number")
    static void moreOfBothByNumber() {
        for (int sort : new int[] {0, 2, 4}) {
            winsOver(new int[] {sort, 0, 7}, new int[] {sort, 0, NONE});
            winsOver(new int[] {sort, 0, 7}, new int[] {sort, NONE, 7});
            winsOver(new int[] {sort, 0, 7}, new int[] {sort, NONE, NONE});
            winsOver(new int[] {sort, 0, NONE}, new int[] {sort, NONE, NONE});
            winsOver(new int[] {sort, NONE, 7}, new int[] {sort, NONE, NONE});
        }
    }

    @Sentence(promise = 18, says = "then that with a START; then the later one.")
    static void thenThatWithAStart() {
        winsOver(new int[] {0, 0, NONE}, new int[] {0, NONE, 7});
        winsOver(new int[] {2, 0, NONE}, new int[] {2, NONE, 7});
        winsOver(new int[] {2, 0, NONE}, new int[] {4, NONE, 7});
        winsOver(new int[] {4, 0, NONE}, new int[] {2, NONE, 7});
    }

    @Sentence(promise = 18, says = "then the later one.")
    static void thenTheLaterOne() {
        int[][] pairs = {{NONE, NONE}, {0, NONE}, {NONE, 7}, {0, 7}};
        for (int[] pair : pairs) {
            same("false", winnerOf(new int[] {0, pair[0], pair[1]}, new int[] {0, pair[0], pair[1]}), 1);
            same("2 behind 4", winnerOf(new int[] {4, pair[0], pair[1]}, new int[] {2, pair[0], pair[1]}), 1);
            same("4 behind 2", winnerOf(new int[] {2, pair[0], pair[1]}, new int[] {4, pair[0], pair[1]}), 1);
        }
    }

    @Sentence(promise = 18, says = "EXCEPTIONS: at most 6")
    static void theLastOfSixMayWin() {
        SlackHall x = kinds();
        x.exception(2, 0, 7);
        x.exception(3, 0, NONE);
        x.exception(4, NONE, 7);
        x.exception(0, 7, NONE);
        x.exception(0, NONE, 8);
        same("the first of five", x.winner(0, 7), 0);
        x.exception(0, NONE, NONE);
        same("the sixth", x.winner(0, 7), 5);
        same("but not over a start", x.winner(7, 7), 3);
        same("nor over an end", x.winner(0, 8), 4);
        same("a start over an end", x.winner(7, 8), 3);
    }

    @Sentence(promise = 18, says = "end: an END (or a FLOP without a FEED)")
    static void anEndNeedsNoFeed() {
        SlackHall x = kinds();
        x.exception(2, NONE, 6);
        same("a FLOP without FEED", x.winner(0, 6), 0);
        same("as a start, too", x.winner(6, 6), 0);
        same("nothing comes there", x.ways(0, 6), 0);
    }

    @Sentence(promise = 18, says = "Throws IndexOutOfBoundsException if there is no such NODE, of both")
    static void startAndEndMustBeThere() {
        numbers(Sentences::kinds, "start", 0, 9, (x, start) -> x.winner(start, 7));
        numbers(Sentences::kinds, "end", 0, 9, (x, end) -> x.winner(0, end));
        numbers(Sentences::kinds, "start, ahead of no end", 0, 9, (x, start) -> x.winner(start, 0));
        numbers(Sentences::kinds, "end, ahead of no start", 0, 9, (x, end) -> x.winner(8, end));
        isIndex(SlackHall::new, "on an empty chip", x -> x.winner(0, 0));
    }

    @Sentence(promise = 18, says = "Throws IllegalArgumentException if start is no START,"
            + " or end is no FLOP, LATCH or OUT")
    static void startAndEndAreSuch() {
        startsAlone("start", (x, start) -> x.winner(start, 7));
        endsAlone("end", (x, end) -> x.winner(0, end));
    }

    public static void main(String[] args) throws IOException, IllegalAccessException {
        run(Promises17To18Test.class, 17, 18);
    }
}
