import java.io.IOException;

/** The sentences of promises 5 to 9 that name a boundary: NODES, their FEEDS, SIZES, WIRES and SKEWS. */
public final class Promises05To09Test extends Sentences {

    private static final int[] AFAR = {-1, 9, LEAST, MOST};

    private static boolean mindsOne(int kind) {
        return kind >= BUF && kind <= XOR || kind == LATCH || kind == OUT;
    }

    private static boolean mindsOther(int kind) {
        return kind == AND || kind == NOR || kind == XOR;
    }

    private static boolean mindsClock(int kind) {
        return kind == IN || kind == FLOP || kind == LATCH || kind == OUT;
    }

    // ---- promise 5

    @Sentence(promise = 5, says = "NODES: at most 16, numbered from 0")
    static void nodesAreNumberedFromZero() {
        SlackHall x = clocked();
        for (int number = 0; number < 16; number++) {
            same("number", x.node(number % 2 == 0 ? IN : BUF, number - 1, 0, 0), number);
        }
        same("many(2)", x.many(2), 16);
        for (int number = 0; number < 16; number++) {
            same("kind of " + number, x.ofNode(number, 0), number % 2 == 0 ? IN : BUF);
        }
    }

    @Sentence(promise = 5, says = "0 IN, 1 BUF, 2 INV, 3 AND, 4 NOR, 5 XOR, 6 FLOP, 7 LATCH, 8 OUT.")
    static void aKindIsZeroToEight() {
        bounds(Sentences::kinds, "kind", 0, 8, (x, kind) -> x.node(kind, 0, 0, 0));
        SlackHall x = kinds();
        for (int kind = 0; kind <= 8; kind++) {
            same("kind", x.ofNode(kind, 0), kind);
        }
    }

    @Sentence(promise = 5, says = "IN has no FEED; AND, NOR and XOR have two, the others one")
    static void feedsAreKeptWhereTheyMatter() {
        for (int kind = 0; kind <= 8; kind++) {
            SlackHall x = kinds();
            same("number", x.node(kind, 5, 7, 0), 9);
            same("one of kind " + kind, x.ofNode(9, 1), mindsOne(kind) ? 5 : NONE);
            same("other of kind " + kind, x.ofNode(9, 2), mindsOther(kind) ? 7 : NONE);
        }
    }

    @Sentence(promise = 5, says = "the numbers of NODES that there are by then")
    static void aFeedIsThereByThen() {
        for (int kind = BUF; kind <= OUT; kind++) {
            if (kind == FLOP) {
                continue;
            }
            int of = kind;
            isIndex(Sentences::clocked, "kind " + kind + " as the first", x -> x.node(of, 0, 0, 0));
            isIndex(Sentences::kinds, "kind " + kind + " of itself", x -> x.node(of, 9, 0, 0));
            fits(Sentences::kinds, "kind " + kind + " of the last but the OUT", x -> x.node(of, 7, 7, 0));
            fits(Sentences::kinds, "kind " + kind + " of the first", x -> x.node(of, 0, 0, 0));
        }
    }

    @Sentence(promise = 5, says = "(a FLOP alone has none at first, and its FEED is told by hand, at any time:"
            + " any NODE but an OUT, itself, too)")
    static void aFlopHasNoFeedAtFirst() {
        SlackHall x = kinds();
        same("feed of the flop 6", x.ofNode(6, 1), NONE);
        x.node(FLOP, 0, 1, 0);
        same("feed of the flop 9", x.ofNode(9, 1), NONE);
        same("other of the flop 9", x.ofNode(9, 2), NONE);
        same("nothing is fed to it", x.ways(0, 9), 0);
    }

    @Sentence(promise = 5, says = "IN, FLOP, LATCH and OUT have a CLOCK.")
    static void clocksAreKeptWhereTheyMatter() {
        for (int kind = 0; kind <= 8; kind++) {
            SlackHall x = kinds();
            x.clock(12, 0, 0, 0);
            x.node(kind, 0, 0, 1);
            same("clock of kind " + kind, x.ofNode(9, 3), mindsClock(kind) ? 1 : NONE);
        }
    }

    @Sentence(promise = 5, says = "Each has a SIZE (1, 2 or 4; 1 at first), a WIRE (a float, told in quarters,"
            + " 0 to 80; 1f at first), and a SKEW (a double, told in quarters, 0 to 20; 0.0 at first;"
            + " of FLOPS and LATCHES alone).")
    static void whatANodeHasAtFirst() {
        for (int kind = 0; kind <= 8; kind++) {
            SlackHall x = kinds();
            x.node(kind, 0, 0, 0);
            same("size of kind " + kind, x.ofNode(9, 4), 1);
            same("wire of kind " + kind, x.load(9), 1.0);
            same("skew of kind " + kind, x.ofNode(9, 6), 0);
            same("feeds of kind " + kind, x.ofNode(9, 5), 0);
        }
    }

    @Sentence(promise = 5, says = "Throws IllegalStateException if it is SIGNED, or there are 16")
    static void aSignedChipTakesNoNode() {
        isState(signed(Sentences::kinds), "a good one", x -> x.node(IN, 0, 0, 0));
        isState(signed(Sentences::kinds), "ahead of a clock", x -> x.node(IN, 0, 0, 1));
        isState(signed(Sentences::kinds), "ahead of a kind", x -> x.node(9, 9, 9, 9));
        isState(signed(Sentences::kinds), "ahead of an out", x -> x.node(BUF, 8, 0, 0));
    }

    @Sentence(promise = 5, says = "or there are 16")
    static void theSeventeenthNodeIsRefused() {
        isState(Sentences::longest, "a good one", x -> x.node(IN, 0, 0, 0));
        isState(Sentences::longest, "ahead of a feed", x -> x.node(BUF, 16, 0, 0));
        isState(Sentences::longest, "ahead of a kind", x -> x.node(-1, -1, -1, -1));
    }

    @Sentence(promise = 5, says = "Throws IndexOutOfBoundsException if a FEED that matters is no NODE")
    static void aFirstFeedThatMattersMustBeThere() {
        for (int kind = 0; kind <= 8; kind++) {
            int of = kind;
            for (int one : AFAR) {
                String what = "kind " + kind + " of one " + one;
                if (mindsOne(kind)) {
                    isIndex(Sentences::kinds, what, x -> x.node(of, one, 0, 0));
                } else {
                    fits(Sentences::kinds, what, x -> x.node(of, one, 0, 0));
                }
            }
        }
    }

    @Sentence(promise = 5, says = "Throws IndexOutOfBoundsException if a FEED that matters is no NODE")
    static void aSecondFeedThatMattersMustBeThere() {
        for (int kind = 0; kind <= 8; kind++) {
            int of = kind;
            for (int other : AFAR) {
                String what = "kind " + kind + " of other " + other;
                if (mindsOther(kind)) {
                    isIndex(Sentences::kinds, what, x -> x.node(of, 0, other, 0));
                } else {
                    fits(Sentences::kinds, what, x -> x.node(of, 0, other, 0));
                }
            }
        }
    }

    @Sentence(promise = 5, says = "or a CLOCK that matters is none")
    static void aClockThatMattersMustBeThere() {
        for (int kind = 0; kind <= 8; kind++) {
            int of = kind;
            for (int clock : new int[] {-1, 1, LEAST, MOST}) {
                String what = "kind " + kind + " of clock " + clock;
                if (mindsClock(kind)) {
                    isIndex(Sentences::kinds, what, x -> x.node(of, 0, 0, clock));
                } else {
                    fits(Sentences::kinds, what, x -> x.node(of, 0, 0, clock));
                }
            }
        }
        isIndex(SlackHall::new, "of no clock at all", x -> x.node(IN, 0, 0, 0));
        isIndex(SlackHall::new, "a flop of no clock at all", x -> x.node(FLOP, 0, 0, 0));
    }

    @Sentence(promise = 5, says = "Throws IllegalArgumentException if kind is not 0 to 8")
    static void nothingMattersForAWrongKind() {
        for (int kind : new int[] {-1, 9, LEAST, MOST}) {
            isArgument(Sentences::kinds, "kind " + kind, x -> x.node(kind, 0, 0, 0));
            isArgument(Sentences::kinds, "with nothing that is there", x -> x.node(kind, 9, -1, 1));
            isArgument(SlackHall::new, "on an empty chip", x -> x.node(kind, 0, 0, 0));
        }
    }

    @Sentence(promise = 5, says = "or a FEED that matters is an OUT")
    static void aFeedThatMattersIsNoOut() {
        for (int kind = 0; kind <= 8; kind++) {
            int of = kind;
            if (mindsOne(kind)) {
                isArgument(Sentences::kinds, "kind " + kind + " of an OUT", x -> x.node(of, 8, 0, 0));
            } else {
                fits(Sentences::kinds, "kind " + kind + " minds no OUT", x -> x.node(of, 8, 8, 0));
            }
            if (mindsOther(kind)) {
                isArgument(Sentences::kinds, "kind " + kind + " of an OUT, too", x -> x.node(of, 0, 8, 0));
            } else {
                fits(Sentences::kinds, "kind " + kind + " minds no second OUT", x -> x.node(of, 0, 8, 0));
            }
        }
    }

    @Sentence(promise = 5, says = "If several exceptions apply, the one that is named first is thrown.")
    static void whatIsNotThereGoesAheadOfAnOut() {
        for (int kind : new int[] {AND, NOR, XOR}) {
            isIndex(Sentences::kinds, "other ahead of one", x -> x.node(kind, 8, 9, 0));
            isIndex(Sentences::kinds, "one ahead of other", x -> x.node(kind, 9, 8, 0));
        }
        isIndex(Sentences::kinds, "the clock of a latch", x -> x.node(LATCH, 8, 0, 1));
        isIndex(Sentences::kinds, "the clock of an out", x -> x.node(OUT, 8, 0, -1));
    }

    // ---- promise 6

    @Sentence(promise = 6, says = "any NODE but an OUT, itself, too")
    static void aFlopIsFedByAnyNodeButAnOut() {
        for (int feed = 0; feed <= 7; feed++) {
            SlackHall x = kinds();
            same("before " + feed, x.feed(6, feed), NONE);
            same("feed " + feed, x.ofNode(6, 1), feed);
            same("no second feed", x.ofNode(6, 2), NONE);
        }
        isArgument(Sentences::kinds, "an OUT", x -> x.feed(6, 8));
        SlackHall x = kinds();
        x.feed(6, 6);
        same("a way from itself", x.ways(6, 6), 1);
    }

    @Sentence(promise = 6, says = "its FEED is told by hand, at any time")
    static void aFeedIsToldAtAnyTime() {
        SlackHall x = kinds();
        int later = x.node(BUF, 6, 0, 0);
        same("one that was told later", x.feed(6, later), NONE);
        same("a way through it", x.ways(6, 6), 1);
        same("another", x.feed(6, 0), later);
        same("no way any more", x.ways(6, 6), 0);
        same("the same again", x.feed(6, 0), 0);
    }

    @Sentence(promise = 6, says = "Returns that before (NONE).")
    static void feedReturnsThatBefore() {
        SlackHall x = kinds();
        same("none", x.feed(6, 7), NONE);
        same("7", x.feed(6, 6), 7);
        same("itself", x.feed(6, 0), 6);
        same("0", x.feed(6, 1), 0);
    }

    @Sentence(promise = 6, says = "Throws IllegalStateException if it is SIGNED")
    static void aSignedChipIsNotFed() {
        isState(signed(Sentences::kinds), "a good one", x -> x.feed(6, 0));
        isState(signed(Sentences::kinds), "ahead of the others", x -> x.feed(9, 9));
        isState(signed(Sentences::kinds), "ahead of no flop", x -> x.feed(0, 8));
    }

    @Sentence(promise = 6, says = "Throws IndexOutOfBoundsException if there is no such NODE, of both")
    static void bothNodesMustBeThere() {
        numbers(Sentences::kinds, "flop", 0, 9, (x, flop) -> x.feed(flop, 0));
        numbers(Sentences::kinds, "node", 0, 9, (x, node) -> x.feed(6, node));
        numbers(Sentences::kinds, "flop, ahead of an OUT", 0, 9, (x, flop) -> x.feed(flop, 8));
        numbers(Sentences::kinds, "node, ahead of no flop", 0, 9, (x, node) -> x.feed(0, node));
        isIndex(SlackHall::new, "on an empty chip", x -> x.feed(0, 0));
    }

    @Sentence(promise = 6, says = "Throws IllegalArgumentException if flop is no FLOP, or node an OUT")
    static void onlyAFlopIsFed() {
        for (int kind = 0; kind <= 8; kind++) {
            int flop = kind;
            if (kind != FLOP) {
                isArgument(Sentences::kinds, "kind " + kind, x -> x.feed(flop, 0));
            }
        }
        isArgument(Sentences::kinds, "both", x -> x.feed(7, 8));
    }

    // ---- promise 7

    @Sentence(promise = 7, says = "Each has a SIZE (1, 2 or 4; 1 at first)")
    static void eachNodeHasASize() {
        for (int node = 0; node <= 8; node++) {
            SlackHall x = kinds();
            same("at first", x.size(node, 4), 1);
            same("then", x.size(node, 2), 4);
            same("the same again", x.size(node, 2), 2);
            same("back", x.size(node, 1), 2);
            same("is kept", x.ofNode(node, 4), 1);
        }
    }

    @Sentence(promise = 7, says = "Throws IllegalStateException if it is SIGNED")
    static void aSignedChipTakesNoSize() {
        isState(signed(Sentences::kinds), "a good one", x -> x.size(1, 2));
        isState(signed(Sentences::kinds), "ahead of the others", x -> x.size(9, 3));
        isState(signed(Sentences::kinds), "ahead of a size", x -> x.size(1, 3));
    }

    @Sentence(promise = 7, says = "Throws IndexOutOfBoundsException if there is no such NODE")
    static void theNodeOfASizeMustBeThere() {
        numbers(Sentences::kinds, "node", 0, 9, (x, node) -> x.size(node, 2));
        numbers(Sentences::kinds, "node, ahead of a size", 0, 9, (x, node) -> x.size(node, 3));
        numbers(Sentences::longest, "node of 16", 0, 16, (x, node) -> x.size(node, 2));
        isIndex(SlackHall::new, "on an empty chip", x -> x.size(0, 1));
    }

    @Sentence(promise = 7, says = "Throws IllegalArgumentException if size is not 1, 2 or 4")
    static void aSizeIsOneTwoOrFour() {
        sizes(Sentences::kinds, "size", (x, size) -> x.size(1, size));
        sizes(Sentences::kinds, "size of an OUT", (x, size) -> x.size(8, size));
    }

    // ---- promise 8

    @Sentence(promise = 8, says = "a WIRE (a float, told in quarters, 0 to 80; 1f at first)")
    static void aWireIsZeroToEightyQuarters() {
        bounds(Sentences::kinds, "quarters", 0, 80, (x, quarters) -> x.wire(1, quarters));
        SlackHall x = kinds();
        same("at first", x.load(8), 1.0);
        x.wire(8, 0);
        same("the least", x.load(8), 0.0);
        x.wire(8, 1);
        same("a quarter", x.load(8), 0.25);
        x.wire(8, 80);
        same("the greatest", x.load(8), 20.0);
    }

    @Sentence(promise = 8, says = "Returns its LOAD from then on, cut to a whole number.")
    static void wireReturnsTheLoadCut() {
        SlackHall x = kinds();
        int[] quarters = {0, 1, 3, 4, 5, 7, 8, 79, 80};
        int[] loads = {0, 0, 0, 1, 1, 1, 2, 19, 20};
        for (int i = 0; i < quarters.length; i++) {
            same("alone with " + quarters[i], x.wire(8, quarters[i]), loads[i]);
        }
        // The XOR 5 feeds the LATCH alone, the LATCH 7 the OUT.
        same("0.75 and 0.5", x.wire(5, 3), 1);
        same("0.25 and 0.5", x.wire(5, 1), 0);
        same("0.5 and 0.5", x.wire(5, 2), 1);
        same("20.0 and 2.0", x.wire(7, 80), 22);
        same("0.0 and 2.0", x.wire(7, 0), 2);
    }

    @Sentence(promise = 8, says = "Throws IllegalStateException if it is SIGNED")
    static void aSignedChipTakesNoWire() {
        isState(signed(Sentences::kinds), "a good one", x -> x.wire(1, 2));
        isState(signed(Sentences::kinds), "ahead of the others", x -> x.wire(9, 81));
        isState(signed(Sentences::kinds), "ahead of quarters", x -> x.wire(1, -1));
    }

    @Sentence(promise = 8, says = "Throws IndexOutOfBoundsException if there is no such NODE")
    static void theNodeOfAWireMustBeThere() {
        numbers(Sentences::kinds, "node", 0, 9, (x, node) -> x.wire(node, 2));
        numbers(Sentences::kinds, "node, ahead of quarters", 0, 9, (x, node) -> x.wire(node, 81));
        isIndex(SlackHall::new, "on an empty chip", x -> x.wire(0, 0));
    }

    @Sentence(promise = 8, says = "Throws IllegalArgumentException if quarters is not 0 to 80")
    static void theQuartersOfEachNodeAreLookedAt() {
        for (int node = 0; node <= 8; node++) {
            int of = node;
            bounds(Sentences::kinds, "quarters of " + node, 0, 80, (x, quarters) -> x.wire(of, quarters));
        }
    }

    // ---- promise 9

    @Sentence(promise = 9, says = "a SKEW (a double, told in quarters, 0 to 20; 0.0 at first;"
            + " of FLOPS and LATCHES alone)")
    static void aSkewIsZeroToTwentyQuarters() {
        bounds(Sentences::kinds, "quarters of a flop", 0, 20, (x, quarters) -> x.skew(6, quarters));
        bounds(Sentences::kinds, "quarters of a latch", 0, 20, (x, quarters) -> x.skew(7, quarters));
        SlackHall x = clocked();
        int flop = inToFlop(x, 0, 0);
        same("0.0 at first", x.left(0, flop, 0, true), 9.0);
        x.skew(flop, 1);
        same("0.25", x.left(0, flop, 0, true), 9.25);
        x.skew(flop, 20);
        same("5.0", x.left(0, flop, 0, true), 14.0);
        x.skew(flop, 0);
        same("0.0", x.left(0, flop, 0, true), 9.0);
    }

    @Sentence(promise = 9, says = "Returns that before, in quarters.")
    static void skewReturnsThatBefore() {
        for (int node : new int[] {FLOP, LATCH}) {
            SlackHall x = kinds();
            same("at first", x.skew(node, 20), 0);
            same("20", x.skew(node, 1), 20);
            same("1", x.skew(node, 0), 1);
            same("0", x.skew(node, 0), 0);
        }
    }

    @Sentence(promise = 9, says = "Throws IllegalStateException if it is SIGNED")
    static void aSignedChipTakesNoSkew() {
        isState(signed(Sentences::kinds), "a good one", x -> x.skew(6, 2));
        isState(signed(Sentences::kinds), "ahead of the others", x -> x.skew(9, 21));
        isState(signed(Sentences::kinds), "ahead of no flop", x -> x.skew(0, 0));
    }

    @Sentence(promise = 9, says = "Throws IndexOutOfBoundsException if there is no such NODE")
    static void theNodeOfASkewMustBeThere() {
        numbers(Sentences::kinds, "node", 0, 9, (x, node) -> x.skew(node, 2));
        numbers(Sentences::kinds, "node, ahead of quarters", 0, 9, (x, node) -> x.skew(node, 21));
        isIndex(SlackHall::new, "on an empty chip", x -> x.skew(0, 0));
    }

    @Sentence(promise = 9, says = "Throws IllegalArgumentException if it is no FLOP and no LATCH,"
            + " or quarters is not 0 to 20")
    static void onlyAFlopOrLatchIsSkewed() {
        for (int node : new int[] {IN, BUF, INV, AND, NOR, XOR, OUT}) {
            isArgument(Sentences::kinds, "node " + node, x -> x.skew(node, 0));
            isArgument(Sentences::kinds, "node " + node + " and quarters", x -> x.skew(node, 21));
        }
    }

    public static void main(String[] args) throws IOException, IllegalAccessException {
        run(Promises05To09Test.class, 5, 9);
    }
}
