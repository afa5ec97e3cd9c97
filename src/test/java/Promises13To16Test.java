import java.io.IOException;

/** The sentences of promises 13 to 16 that name a boundary: what is asked of a CLOCK and of a NODE alone. */
public final class Promises13To16Test extends Sentences {

    /** The FLOP 0 feeds itself and both FEEDS of 15 XORS; all are of SIZE 4. */
    private static SlackHall burdened() {
        SlackHall x = clocked();
        x.node(FLOP, 0, 0, 0);
        x.feed(0, 0);
        for (int node = 1; node < 16; node++) {
            x.node(XOR, 0, 0, 0);
        }
        for (int node = 0; node < 16; node++) {
            x.size(node, 4);
        }
        return x;
    }

    // ---- promise 13

    @Sentence(promise = 13, says = "what: 0 its PERIOD, 1 LATENCY in quarters, 2 UNSURE in quarters,"
            + " 3 GROUP, 4 ROOT")
    static void whatOfAClockIsZeroToFour() {
        SlackHall x = new SlackHall();
        x.clock(40, 39, 19, 1);
        x.divide(0, 4, 20);
        int[] told = {40, 39, 19, 1, 0};
        int[] divided = {160, 59, 19, 1, 0};
        for (int what = 0; what <= 4; what++) {
            same("told, what " + what, x.ofClock(0, what), told[what]);
            same("divided, what " + what, x.ofClock(1, what), divided[what]);
        }
    }

    @Sentence(promise = 13, says = "Throws IndexOutOfBoundsException if there is no such CLOCK")
    static void theClockMustBeThere() {
        numbers(SlackHall::new, "clock of none", 0, 0, (x, clock) -> x.ofClock(clock, 0));
        numbers(Sentences::clocked, "clock of one", 0, 1, (x, clock) -> x.ofClock(clock, 0));
        numbers(Promises13To16Test::fourClocks, "clock of four", 0, 4, (x, clock) -> x.ofClock(clock, 4));
        numbers(Sentences::clocked, "clock, ahead of what", 0, 1, (x, clock) -> x.ofClock(clock, 5));
        fits(Promises13To16Test::fourClocks, "the last", x -> x.ofClock(3, 0));
    }

    private static SlackHall fourClocks() {
        SlackHall x = clocked();
        for (int clock = 1; clock < 4; clock++) {
            x.clock(10, 0, 0, 0);
        }
        return x;
    }

    @Sentence(promise = 13, says = "Throws IllegalArgumentException if what is not 0 to 4")
    static void noOtherWhatOfAClock() {
        bounds(Sentences::clocked, "what", 0, 4, (x, what) -> x.ofClock(0, what));
        bounds(signed(Sentences::clocked), "what, signed", 0, 4, (x, what) -> x.ofClock(0, what));
    }

    // ---- promise 14

    @Sentence(promise = 14, says = "what: 0 its KIND, 1 and 2 its FEEDS (NONE), 3 its CLOCK (NONE), 4 SIZE,"
            + " 5 how many FEEDS it is, 6 SKEW in quarters (0 of others)")
    static void whatOfANodeIsZeroToSix() {
        SlackHall x = kinds();
        x.feed(6, 6);
        x.skew(6, 20);
        x.skew(7, 1);
        x.size(8, 4);
        int[][] due = {{0, -1, -1, 0, 1, 1, 0}, {1, 0, -1, -1, 1, 3, 0}, {2, 1, -1, -1, 1, 2, 0},
            {3, 1, 2, -1, 1, 1, 0}, {4, 3, 1, -1, 1, 1, 0}, {5, 4, 2, -1, 1, 1, 0}, {6, 6, -1, 0, 1, 1, 20},
            {7, 5, -1, 0, 1, 1, 1}, {8, 7, -1, 0, 4, 0, 0}};
        for (int node = 0; node <= 8; node++) {
            for (int what = 0; what <= 6; what++) {
                same("ofNode(" + node + ", " + what + ")", x.ofNode(node, what), due[node][what]);
            }
        }
    }

    @Sentence(promise = 14, says = "5 how many FEEDS it is")
    static void feedsAreCountedEach() {
        same("none", kinds().ofNode(8, 5), 0);
        same("twice of each, and of itself", burdened().ofNode(0, 5), 31);
        same("twice of one", longest().ofNode(14, 5), 2);
        SlackHall x = kinds();
        x.feed(6, 0);
        same("one more", x.ofNode(0, 5), 2);
        x.feed(6, 1);
        same("one less", x.ofNode(0, 5), 1);
        same("and more there", x.ofNode(1, 5), 4);
    }

    @Sentence(promise = 14, says = "Throws IndexOutOfBoundsException if there is no such NODE")
    static void theNodeMustBeThere() {
        numbers(SlackHall::new, "node of none", 0, 0, (x, node) -> x.ofNode(node, 0));
        numbers(Sentences::kinds, "node", 0, 9, (x, node) -> x.ofNode(node, 5));
        numbers(Sentences::longest, "node of 16", 0, 16, (x, node) -> x.ofNode(node, 0));
        numbers(Sentences::kinds, "node, ahead of what", 0, 9, (x, node) -> x.ofNode(node, 7));
        fits(Sentences::longest, "the last", x -> x.ofNode(15, 6));
    }

    @Sentence(promise = 14, says = "Throws IllegalArgumentException if what is not 0 to 6")
    static void noOtherWhatOfANode() {
        bounds(Sentences::kinds, "what", 0, 6, (x, what) -> x.ofNode(0, what));
        bounds(Sentences::kinds, "what of the last", 0, 6, (x, what) -> x.ofNode(8, what));
    }

    // ---- promise 15

    @Sentence(promise = 15, says = "2f for an OUT, otherwise 0.5f times the SIZE of that one.")
    static void theSizeOfAnOutIsNoLoad() {
        SlackHall x = kinds();
        for (int size : new int[] {1, 2, 4}) {
            x.size(8, size);
            same("an OUT of size " + size, x.load(7), 3.0);
            x.size(7, size);
            same("a LATCH of size " + size, x.load(5), 1.0 + 0.5 * size);
            x.size(6, size);
            x.feed(6, 6);
            same("itself of size " + size, x.load(6), 1.0 + 0.5 * size);
        }
    }

    @Sentence(promise = 15, says = "WIRE, and then NODE by NODE, FEED by FEED, for each one that it is")
    static void theLeastAndTheGreatestLoad() {
        SlackHall x = clocked();
        x.node(IN, 0, 0, 0);
        x.wire(0, 0);
        same("no wire, and no feed of any", x.load(0), 0.0);
        SlackHall y = burdened();
        same("wire returns it, too", y.wire(0, 80), 82);
        same("20.0, 30 times 2.0 and its own 2.0", y.load(0), 82.0);
        same("that of a gate behind", y.load(15), 1.0);
        x.wire(0, 1);
        same("a quarter", x.load(0), 0.25);
    }

    @Sentence(promise = 15, says = "Throws IndexOutOfBoundsException if there is no such NODE")
    static void theNodeOfALoadMustBeThere() {
        numbers(SlackHall::new, "node of none", 0, 0, (x, node) -> x.load(node));
        numbers(Sentences::kinds, "node", 0, 9, (x, node) -> x.load(node));
        numbers(Sentences::longest, "node of 16", 0, 16, (x, node) -> x.load(node));
        fits(Sentences::longest, "the last", x -> x.load(15));
    }

    // ---- promise 16

    /** What a gate with that LOAD takes; its WIRE is told, and it is nobody's FEED. */
    private static void takesOf(double load, double rise) {
        SlackHall x = clocked();
        x.node(IN, 0, 0, 0);
        x.node(BUF, 0, 0, 0);
        x.wire(1, (int) (load * 4.0));
        same("rise of " + load, x.takes(1, true), rise);
        same("fall of " + load, x.takes(1, false), 0.75 * rise);
        x.size(1, 4);
        same("rise of " + load + " by 4", x.takes(1, true), rise / 4.0);
    }

    @Sentence(promise = 16, says = "up to 4.0: 1.0 + r * 0.25")
    static void upToFour() {
        takesOf(0.0, 1.0);
        takesOf(0.25, 1.0625);
        takesOf(3.75, 1.9375);
        takesOf(4.0, 2.0);
    }

    @Sentence(promise = 16, says = "up to 8.0: 2.0 + (r - 4.0) * 0.375")
    static void upToEight() {
        takesOf(4.25, 2.09375);
        takesOf(7.75, 3.40625);
        takesOf(8.0, 3.5);
    }

    @Sentence(promise = 16, says = "up to 16.0: 3.5 + (r - 8.0) * 0.375")
    static void upToSixteen() {
        takesOf(8.25, 3.59375);
        takesOf(15.75, 6.40625);
        takesOf(16.0, 6.5);
    }

    @Sentence(promise = 16, says = "above: 6.5 + (r - 16.0) * 0.5")
    static void aboveSixteen() {
        takesOf(16.25, 6.625);
        takesOf(20.0, 8.5);
        SlackHall x = burdened();
        x.wire(0, 80);
        same("the greatest, by 4, and 2.0", x.takes(0, true), (6.5 + 66.0 * 0.5) / 4.0 + 2.0);
        x.size(0, 1);
        same("the greatest but 1.5, and 2.0", x.takes(0, true), 6.5 + 64.5 * 0.5 + 2.0);
    }

    @Sentence(promise = 16, says = "all that divided by SIZE; of a FLOP or LATCH then 2.0 more; 0.0 of IN and OUT.")
    static void theTwoOfAFlopIsNotDivided() {
        SlackHall x = kinds();
        for (int size : new int[] {1, 2, 4}) {
            for (int node = 0; node <= 8; node++) {
                x.size(node, size);
            }
            x.wire(8, 80);
            x.wire(0, 80);
            same("a FLOP by " + size, x.takes(6, true), 1.25 / size + 2.0);
            same("it falls", x.takes(6, false), 0.75 * (1.25 / size + 2.0));
            same("a LATCH by " + size, x.takes(7, true), 1.75 / size + 2.0);
            same("an OUT by " + size, x.takes(8, true), 0.0);
            same("it falls", x.takes(8, false), 0.0);
            same("an IN by " + size, x.takes(0, true), 0.0);
            same("it falls", x.takes(0, false), 0.0);
        }
    }

    @Sentence(promise = 16, says = "The RISE of a NODE takes that, its FALL 0.75 times that.")
    static void aFallTakesThreeQuarters() {
        SlackHall x = kinds();
        double[] rises = {0.0, 1.625, 1.5, 1.375, 1.375, 1.375, 3.25, 3.75, 0.0};
        for (int node = 0; node <= 8; node++) {
            same("rise of kind " + node, x.takes(node, true), rises[node]);
            same("fall of kind " + node, x.takes(node, false), 0.75 * rises[node]);
        }
    }

    @Sentence(promise = 16, says = "Throws IndexOutOfBoundsException if there is no such NODE")
    static void theNodeThatTakesMustBeThere() {
        numbers(SlackHall::new, "node of none", 0, 0, (x, node) -> x.takes(node, true));
        numbers(Sentences::kinds, "rise of node", 0, 9, (x, node) -> x.takes(node, true));
        numbers(Sentences::kinds, "fall of node", 0, 9, (x, node) -> x.takes(node, false));
        numbers(Sentences::longest, "node of 16", 0, 16, (x, node) -> x.takes(node, true));
        fits(Sentences::longest, "the last", x -> x.takes(15, true));
    }

    public static void main(String[] args) throws IOException, IllegalAccessException {
        run(Promises13To16Test.class, 13, 16);
    }
}
