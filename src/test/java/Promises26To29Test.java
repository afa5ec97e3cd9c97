import java.io.IOException;
import java.math.BigInteger;

/** The sentences of promises 26 to 29 that name a boundary: what would be, and the digest. */
public final class Promises26To29Test extends Sentences {

    private static void sizesAre(SlackHall x, int... sizes) {
        for (int node = 0; node < sizes.length; node++) {
            same("size of " + node, x.ofNode(node, 4), sizes[node]);
        }
    }

    /** 0 IN, 1 BUF of it with so many quarters, 2 OUT of that, 3 BUF of 0 with so many others, 4 OUT of that. */
    private static SlackHall twoOuts(int one, int other) {
        SlackHall x = clocked();
        x.node(IN, 0, 0, 0);
        x.node(BUF, 0, 0, 0);
        x.node(OUT, 1, 0, 0);
        x.node(BUF, 0, 0, 0);
        x.node(OUT, 3, 0, 0);
        x.wire(1, one);
        x.wire(3, other);
        return x;
    }

    // ---- promise 26

    @Sentence(promise = 26, says = "Returns least() for the late with that SIZE.")
    static void theSizeAsItIsChangesNothing() {
        SlackHall x = twoOuts(56, 24);
        for (int size = 1; size <= 4; size *= 2) {
            x.size(1, size);
            double now = x.least(true);
            same("of size " + size, x.wouldLeave(1, size), now);
            same("of an IN", x.wouldLeave(0, 4), now);
            same("of an OUT", x.wouldLeave(2, 4), now);
        }
    }

    @Sentence(promise = 26, says = "Returns least() for the late with that SIZE.")
    static void whatWouldBeComesTrue() {
        for (int size = 1; size <= 4; size *= 2) {
            for (int node = 0; node < 4; node++) {
                SlackHall x = lenderOfTwo(3);
                x.corner(12, 4);
                x.node(XOR, 2, 3, 0);
                x.node(OUT, 4, 0, 0);
                double would = x.wouldLeave(node, size);
                sizesAre(x, 1, 1, 1, 1, 1, 1);
                x.size(node, size);
                same("node " + node + " of size " + size, x.least(true), would);
                same("back to 1", x.wouldLeave(node, 1), lenderWithGate().least(true));
            }
        }
    }

    private static SlackHall lenderWithGate() {
        SlackHall x = lenderOfTwo(3);
        x.corner(12, 4);
        x.node(XOR, 2, 3, 0);
        x.node(OUT, 4, 0, 0);
        return x;
    }

    @Sentence(promise = 26, says = "what would be (nothing is changed).")
    static void nothingIsChanged() {
        SlackHall x = lenderWithGate();
        long digest = x.digest();
        double late = x.least(true);
        double borrow = x.borrow(3, 0);
        same("less would be left", x.wouldLeave(3, 4) == late, false);
        same("least", x.least(true), late);
        same("borrow", x.borrow(3, 0), borrow);
        same("the arrival behind", x.arrival(3, 3, 0, true, true), borrow + x.takes(3, true));
        same("load", x.load(2), 16.5);
        sizesAre(x, 1, 1, 1, 1, 1, 1);
        x.best();
        sizesAre(x, 1, 1, 1, 1, 1, 1);
        same("digest", x.digest(), digest);
    }

    @Sentence(promise = 26, says = "FREE without any.")
    static void freeWithoutAnyEnd() {
        same("nothing is checked", freeChip().wouldLeave(1, 4), FREE);
        same("as it is", freeChip().wouldLeave(1, 1), FREE);
    }

    private static SlackHall freeChip() {
        SlackHall x = twoOuts(56, 24);
        x.exception(0, NONE, NONE);
        return x;
    }

    @Sentence(promise = 26, says = "Throws IndexOutOfBoundsException if there is no such NODE")
    static void theNodeMustBeThere() {
        numbers(SlackHall::new, "node of none", 0, 0, (x, node) -> x.wouldLeave(node, 1));
        numbers(Sentences::kinds, "node", 0, 9, (x, node) -> x.wouldLeave(node, 1));
        numbers(Sentences::kinds, "node, ahead of a size", 0, 9, (x, node) -> x.wouldLeave(node, 3));
        numbers(Sentences::longest, "node of 16", 0, 16, (x, node) -> x.wouldLeave(node, 4));
        fits(Sentences::longest, "the last", x -> x.wouldLeave(15, 4));
    }

    @Sentence(promise = 26, says = "Throws IllegalArgumentException if size is not 1, 2 or 4")
    static void theSizeIsOneTwoOrFour() {
        sizes(Sentences::kinds, "size", (x, size) -> x.wouldLeave(1, size));
        sizes(Sentences::kinds, "size of an IN", (x, size) -> x.wouldLeave(0, size));
        sizes(signed(Sentences::kinds), "size of a signed chip", (x, size) -> x.wouldLeave(8, size));
    }

    // ---- promise 27

    @Sentence(promise = 27, says = "NONE, if none is greater than least() now.")
    static void noneIfNoneIsGreater() {
        same("an empty chip", new SlackHall().best(), NONE);
        same("nothing is checked", freeChip().best(), NONE);
        same("two alike: either alone does not help", twoOuts(24, 24).best(), NONE);
        same("the two alike, one of 4: only the other helps", sized(twoOuts(24, 24), 1, 4).best(), 12 + 2);
        SlackHall x = clocked();
        inToFlop(x, 0, 0);
        same("no gate", x.best(), NONE);
        SlackHall y = sized(sized(twoOuts(24, 24), 1, 4), 3, 4);
        same("all are of 4", y.best(), NONE);
    }

    private static SlackHall sized(SlackHall x, int node, int size) {
        x.size(node, size);
        return x;
    }

    @Sentence(promise = 27, says = "of several the smallest such number")
    static void theSmallestNumberOfSeveral() {
        // The BUF 1 takes 6.5, or 3.25 or 1.625 by SIZE; the BUF 3 takes 3.5, and that is the least then.
        SlackHall x = twoOuts(56, 24);
        same("by 2", x.wouldLeave(1, 2), 6.5);
        same("by 4", x.wouldLeave(1, 4), 6.5);
        same("2 is the smallest", x.best(), 4 + 1);
        same("3 alike", sized(twoOuts(24, 56), 3, 4).best(), 4 + 2);

        // The BUFS 1 and 2, one behind the other, take 2.0 each; the BUF 4 takes 3.5.
        SlackHall y = clocked();
        y.node(IN, 0, 0, 0);
        y.node(BUF, 0, 0, 0);
        y.node(BUF, 1, 0, 0);
        y.node(OUT, 2, 0, 0);
        y.node(BUF, 0, 0, 0);
        y.node(OUT, 4, 0, 0);
        y.wire(1, 14);
        y.wire(2, 8);
        y.wire(4, 24);
        for (int size = 2; size <= 4; size *= 2) {
            same("1 by " + size, y.wouldLeave(1, size), 6.5);
            same("2 by " + size, y.wouldLeave(2, size), 6.5);
        }
        same("the first node", y.best(), 4 + 1);
    }

    @Sentence(promise = 27, says = "Returns 4 times the NODE, and 0 for a SIZE of 1, 1 for 2, 2 for 4")
    static void fromTheLeastToTheGreatestNumber() {
        SlackHall x = clocked();
        x.node(FLOP, 0, 0, 0);
        x.feed(0, 0);
        same("the NODE 0 by 4", x.best(), 2);
        SlackHall y = clocked();
        y.node(IN, 0, 0, 0);
        y.node(FLOP, 0, 0, 0);
        for (int node = 2; node < 16; node++) {
            y.node(BUF, 0, 0, 0);
        }
        y.feed(1, 15);
        same("the NODE 15 by 4", y.best(), 62);
        y.size(15, 4);
        same("none then", y.best(), NONE);
        y.size(15, 2);
        same("from 2 on to 4", y.best(), 62);
    }

    @Sentence(promise = 27, says = "and 0 for a SIZE of 1, 1 for 2, 2 for 4")
    static void aSmallerSizeMayBeTheBest() {
        // The BUF 1 is of 4; the BUF 3, behind which there is nothing, burdens it with the half of its SIZE.
        SlackHall x = clocked();
        x.node(IN, 0, 0, 0);
        x.node(BUF, 0, 0, 0);
        x.node(OUT, 1, 0, 0);
        x.node(BUF, 1, 0, 0);
        x.wire(1, 80);
        x.size(1, 4);
        x.size(3, 4);
        same("by 1", x.best(), 12);
    }

    @Sentence(promise = 27, says = "and 0 for a SIZE of 1, 1 for 2, 2 for 4")
    static void theMiddleSizeMayBeTheBest() {
        // The BUF 3 takes less by its SIZE, but burdens the BUF 1, which the OUT 2 (UNSURE 1.0) needs at once.
        SlackHall x = clocked();
        x.clock(10, 0, 4, 0);
        x.node(IN, 0, 0, 0);
        x.node(BUF, 0, 0, 0);
        x.node(OUT, 1, 0, 1);
        x.node(BUF, 1, 0, 0);
        x.node(OUT, 3, 0, 0);
        x.size(1, 4);
        x.wire(1, 80);
        same("now", x.least(true), 10.0 - 2.4375 - 1.75);
        same("by 2", x.wouldLeave(3, 2), 9.0 - 2.5);
        same("by 4", x.wouldLeave(3, 4), 9.0 - 2.625);
        same("2 is the best", x.best(), 12 + 1);
    }

    // ---- promise 28

    /** 0 IN, 1 and 2 BUFS of it, 3 OUT of 1, 4 FLOP of 2 with a SKEW of 1.0; all in three CORNERS. */
    private static SlackHall threeCorners(int[] one, int[] other) {
        SlackHall x = clocked();
        x.corner(one[0], one[1]);
        x.corner(other[0], other[1]);
        x.node(IN, 0, 0, 0);
        x.node(BUF, 0, 0, 0);
        x.node(BUF, 0, 0, 0);
        x.node(OUT, 1, 0, 0);
        x.node(FLOP, 0, 0, 0);
        x.feed(4, 2);
        x.skew(4, 4);
        return x;
    }

    private static void areIdle(String what, SlackHall x, boolean... due) {
        for (int corner = 0; corner < due.length; corner++) {
            same(what + ", corner " + corner, x.isIdle(corner), due[corner]);
        }
    }

    @Sentence(promise = 28, says = "Returns whether another CORNER leaves no more than this one at each END,"
            + " for the late and for the early")
    static void anotherCornerThatLeavesNoMore() {
        areIdle("alone", chain(), false);
        areIdle("an empty chip", new SlackHall(), false);
        areIdle("from mild to hard", threeCorners(new int[] {9, 7}, new int[] {10, 6}), true, true, false);
        areIdle("from hard to mild", threeCorners(new int[] {10, 6}, new int[] {9, 7}), true, false, true);
        areIdle("the late of 1, the early of 2", threeCorners(new int[] {9, 8}, new int[] {8, 7}), true, false, false);
        areIdle("more for the late of 1", threeCorners(new int[] {12, 7}, new int[] {9, 7}), true, false, true);
        areIdle("more for the early of 1", threeCorners(new int[] {9, 4}, new int[] {9, 7}), true, false, true);
    }

    @Sentence(promise = 28, says = "at each END, for the late and for the early")
    static void eachEndCounts() {
        // The CORNER 2 leaves less than 1 at the FLOP, for the late and for the early, but more at the OUT.
        SlackHall x = threeCorners(new int[] {9, 8}, new int[] {8, 4});
        for (int which = 0; which < 2; which++) {
            boolean isLate = which == 0;
            same("at the FLOP, " + isLate, x.leftAt(4, 2, isLate) < x.leftAt(4, 1, isLate), true);
        }
        same("at the OUT", x.leftAt(3, 2, true) > x.leftAt(3, 1, true), true);
        areIdle("both ENDS", x, true, false, false);
        x.exception(0, NONE, 3);
        areIdle("the FLOP alone", x, true, true, false);
        x.exception(0, NONE, 4);
        areIdle("nothing is checked", x, false, true, true);
    }

    @Sentence(promise = 28, says = "(if both leave the same everywhere, only the one with the greater number"
            + " is idle by that)")
    static void theSameEverywhere() {
        areIdle("1 and 2", threeCorners(new int[] {12, 4}, new int[] {12, 4}), true, false, true);
        areIdle("0 and 1", threeCorners(new int[] {8, 8}, new int[] {12, 4}), true, true, false);
        areIdle("0 and 2", threeCorners(new int[] {12, 4}, new int[] {8, 8}), true, false, true);
        areIdle("all", threeCorners(new int[] {8, 8}, new int[] {8, 8}), false, true, true);
        SlackHall x = new SlackHall();
        x.corner(16, 1);
        x.corner(8, 1);
        areIdle("an empty chip leaves the same", x, false, true, true);
        SlackHall y = clocked();
        y.corner(16, 1);
        inToFlop(y, 0, 0);
        areIdle("nothing is multiplied", y, false, true);
    }

    @Sentence(promise = 28, says = "leaves no more than this one at each END")
    static void theSameAtOneEndAlone() {
        // At the FLOP, fed by an IN, all CORNERS leave the same; at the OUT behind the BUF they do not.
        SlackHall x = clocked();
        x.corner(9, 8);
        inToFlop(x, 0, 0);
        areIdle("the FLOP alone", x, false, true);
        x.node(BUF, 0, 0, 0);
        x.node(OUT, 2, 0, 0);
        areIdle("less for the late of the OUT", x, true, false);
        x.corner(8, 7);
        areIdle("less for the early of the OUT", x, true, false, false);
    }

    @Sentence(promise = 28, says = "for the late and for the early")
    static void lessForOneOfBothAlone() {
        for (int which = 0; which < 2; which++) {
            SlackHall x = clocked();
            x.corner(which == 0 ? 9 : 8, which == 0 ? 8 : 7);
            x.node(FLOP, 0, 0, 0);
            x.feed(0, 0);
            areIdle("the END 0, less in case " + which, x, true, false);
        }
    }

    @Sentence(promise = 28, says = "NODES: at most 16, numbered from 0")
    static void theLastOfSixteenNodesCounts() {
        SlackHall x = clocked();
        x.corner(9, 8);
        inToFlop(x, 0, 0);
        for (int node = 2; node < 15; node++) {
            x.node(BUF, 0, 0, 0);
        }
        areIdle("15 NODES", x, false, true);
        x.node(OUT, 14, 0, 0);
        areIdle("16 NODES", x, true, false);
        areIdle("the longest chip", longestInTwoCorners(), true, false);
    }

    private static SlackHall longestInTwoCorners() {
        SlackHall x = longest();
        x.feed(0, 15);
        x.corner(16, 1);
        return x;
    }

    @Sentence(promise = 28, says = "Throws IndexOutOfBoundsException if there is no such CORNER")
    static void theCornerMustBeThere() {
        numbers(SlackHall::new, "corner of one", 0, 1, (x, corner) -> x.isIdle(corner));
        numbers(Promises26To29Test::someCorners, "corner of three", 0, 3, (x, corner) -> x.isIdle(corner));
        fits(Promises26To29Test::someCorners, "the last", x -> x.isIdle(2));
    }

    private static SlackHall someCorners() {
        return threeCorners(new int[] {16, 1}, new int[] {16, 8});
    }

    // ---- promise 29

    private static BigInteger plus(BigInteger d, double v) {
        return d.multiply(BigInteger.valueOf(31)).add(BigInteger.valueOf((long) v));
    }

    /** As the document says it, but in numbers without bounds. */
    private static BigInteger unbounded(SlackHall x) {
        BigInteger d = BigInteger.valueOf(9604);
        for (int what = 0; what <= 10; what++) {
            d = plus(d, x.many(what));
        }
        for (int clock = 0; clock < x.many(0); clock++) {
            for (int what = 0; what <= 4; what++) {
                d = plus(d, x.ofClock(clock, what));
            }
        }
        for (int node = 0; node < x.many(2); node++) {
            for (int what = 0; what <= 6; what++) {
                d = plus(d, x.ofNode(node, what));
            }
            d = plus(d, 64.0 * x.load(node));
            if (x.ofNode(node, 0) >= FLOP) {
                d = plus(d, 64.0 * x.leftAt(node, 0, true));
                d = plus(d, 64.0 * x.leftAt(node, 0, false));
                d = plus(d, x.worst(node, 0));
            }
        }
        return plus(d, x.best());
    }

    private static void wraps(String what, SlackHall x) {
        BigInteger unbounded = unbounded(x);
        same(what + " does not fit into 64 bits", unbounded.bitLength() > 64, true);
        same(what, x.digest(), unbounded.longValue());
    }

    @Sentence(promise = 29, says = "then d becomes d * 31 + v, which wraps around as a 64-bit integer")
    static void theDigestWrapsAround() {
        wraps("an empty chip", new SlackHall());
        wraps("a node of each kind", kinds());
        wraps("a chain", chain());
        wraps("a lender", lenderOfTwo(5));
        SlackHall x = longest();
        x.feed(0, 15);
        x.divide(0, 4, 20);
        x.clock(40, 40, 20, 1);
        x.divide(2, 4, 20);
        for (int i = 0; i < 6; i++) {
            x.exception(2, 0, 0);
        }
        x.knock();
        wraps("a full chip", x);
        x.sign(true);
        wraps("a signed one", x);
    }

    @Sentence(promise = 29, says = "A number d starts with 9604")
    static void theDigestOfAnEmptyChip() {
        // 9604 * 31^12 + 31^10 (one CORNER) - 1 (no best one): many() of 0 to 10, and best().
        BigInteger base = BigInteger.valueOf(31);
        BigInteger d = BigInteger.valueOf(9604).multiply(base.pow(12)).add(base.pow(10)).subtract(BigInteger.ONE);
        same("digest", new SlackHall().digest(), d.longValue());
    }

    @Sentence(promise = 29, says = "64 times leftAt() in the CORNER 0 for the late, and for the early (cut toward 0)")
    static void whatLacksIsCutTowardNothing() {
        // The BUF has a LOAD of 4.25 and a SIZE of 4: it takes 67 / 128, and falls in 201 / 512.
        SlackHall x = clocked();
        x.clock(4, 18, 0, 0);
        x.node(IN, 0, 0, 1);
        x.node(BUF, 0, 0, 0);
        x.node(OUT, 1, 0, 0);
        x.node(OUT, 1, 0, 1);
        x.wire(1, 1);
        x.size(1, 4);
        same("late", 64.0 * x.leftAt(2, 0, true), -193.5);
        same("early", 64.0 * x.leftAt(3, 0, false), 25.125);
        long d = 9604;
        long[] due = {2, 1, 4, 0, 2, 1, 0, 0, 0, 0, 0, 10, 0, 0, 0, 0, 4, 18, 0, 0, 1,
            0, -1, -1, 1, 1, 1, 0, 192,
            1, 0, -1, -1, 4, 2, 0, 272,
            8, 1, -1, 0, 1, 0, 0, 64, -193, 313, 1,
            8, 1, -1, 1, 1, 0, 0, 64, 222, 25, 1,
            -1};
        for (long v : due) {
            d = d * 31 + v;
        }
        same("digest", x.digest(), d);
    }

    @Sentence(promise = 29, says = "64 times load() (cut to a whole number)")
    static void theLoadCountsInItsQuarters() {
        SlackHall x = clocked();
        x.node(IN, 0, 0, 0);
        x.wire(0, 0);
        long none = x.digest();
        x.wire(0, 1);
        same("a quarter: 16 at the last place but one", x.digest(), none + 16 * 31);
        x.wire(0, 80);
        same("20.0", x.digest(), none + 1280 * 31);
    }

    @Sentence(promise = 29, says = "and, if it is a FLOP, LATCH or OUT, right behind these")
    static void whatIsFreeIsCountedToo() {
        SlackHall x = clocked();
        x.node(IN, 0, 0, 0);
        long in = x.digest();
        SlackHall y = clocked();
        y.node(FLOP, 0, 0, 0);
        // Of the FLOP come 64 times FREE, twice, and NONE; the KIND is 6, not 0, and all ahead stands three places on.
        long[] ahead = {1, 1, 1, 0, 0, 0, 0, 0, 0, 0, 0, 10, 0, 0, 0, 0};
        long d = 9604;
        for (long v : ahead) {
            d = d * 31 + v;
        }
        long flop = d;
        for (long v : new long[] {0, -1, -1, 0, 1, 0, 0, 64, -1}) {
            d = d * 31 + v;
        }
        for (long v : new long[] {6, -1, -1, 0, 1, 0, 0, 64, 6399936, 6399936, -1, -1}) {
            flop = flop * 31 + v;
        }
        same("an IN", in, d);
        same("a FLOP without FEED", y.digest(), flop);
    }

    public static void main(String[] args) throws IOException, IllegalAccessException {
        run(Promises26To29Test.class, 26, 29);
    }
}
