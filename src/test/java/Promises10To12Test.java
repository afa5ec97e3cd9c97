import java.io.IOException;

/** The sentences of promises 10 to 12 that name a boundary: EXCEPTIONS, signing and knocking. */
public final class Promises10To12Test extends Sentences {

    private static SlackHall sixExceptions() {
        SlackHall x = kinds();
        x.exception(0, 0, 7);
        for (int i = 1; i < 6; i++) {
            x.exception(2, NONE, NONE);
        }
        return x;
    }

    // ---- promise 10

    @Sentence(promise = 10, says = "EXCEPTIONS: at most 6, numbered from 0")
    static void exceptionsAreNumberedFromZero() {
        SlackHall x = kinds();
        for (int number = 0; number < 6; number++) {
            same("number", x.exception(2, NONE, NONE), number);
            same("the later one wins", x.winner(0, 7), number);
        }
        same("many(3)", x.many(3), 6);
    }

    @Sentence(promise = 10, says = "each FALSE (0) or MULTI (2 to 4)")
    static void aSortIsZeroOrTwoToFour() {
        for (int sort : new int[] {0, 2, 3, 4}) {
            fits(Sentences::kinds, "sort " + sort, x -> x.exception(sort, NONE, NONE));
        }
        for (int sort : new int[] {-1, 1, 5, -2, LEAST, MOST}) {
            isArgument(Sentences::kinds, "sort " + sort, x -> x.exception(sort, NONE, NONE));
        }
        for (int sort = 2; sort <= 4; sort++) {
            SlackHall x = clocked();
            int flop = inToFlop(x, 0, 0);
            x.exception(sort, NONE, NONE);
            same("sort " + sort, x.left(0, flop, 0, true), 10.0 * sort - 1.0);
        }
    }

    @Sentence(promise = 10, says = "from a START or any (NONE), to an END or any (NONE)")
    static void eitherMayBeAny() {
        fits(Sentences::kinds, "any to any", x -> x.exception(0, NONE, NONE));
        fits(Sentences::kinds, "any to an OUT", x -> x.exception(0, NONE, 8));
        fits(Sentences::kinds, "an IN to any", x -> x.exception(0, 0, NONE));
        fits(Sentences::kinds, "a LATCH to itself", x -> x.exception(0, 7, 7));
        SlackHall x = kinds();
        x.exception(0, 0, NONE);
        same("from 0 to any", x.winner(0, 8), 0);
        same("not from 7", x.winner(7, 8), NONE);
        SlackHall y = kinds();
        y.exception(0, NONE, 8);
        same("from any to 8", y.winner(7, 8), 0);
        same("not to 7", y.winner(0, 7), NONE);
    }

    @Sentence(promise = 10, says = "Throws IllegalStateException if it is SIGNED, or there are 6")
    static void aSignedChipTakesNoException() {
        isState(signed(Sentences::kinds), "a good one", x -> x.exception(0, NONE, NONE));
        isState(signed(Sentences::kinds), "ahead of the others", x -> x.exception(1, 9, 9));
        isState(signed(Sentences::kinds), "ahead of a sort", x -> x.exception(1, NONE, NONE));
    }

    @Sentence(promise = 10, says = "or there are 6")
    static void theSeventhExceptionIsRefused() {
        isState(Promises10To12Test::sixExceptions, "a good one", x -> x.exception(0, NONE, NONE));
        isState(Promises10To12Test::sixExceptions, "ahead of the others", x -> x.exception(5, -2, 9));
        isState(Promises10To12Test::sixExceptions, "ahead of a sort", x -> x.exception(1, NONE, NONE));
    }

    @Sentence(promise = 10, says = "Throws IndexOutOfBoundsException if from or to is not NONE,"
            + " and there is no such NODE")
    static void fromAndToMustBeThere() {
        numbers(Sentences::kinds, "from", NONE, 9, (x, from) -> x.exception(0, from, NONE));
        numbers(Sentences::kinds, "to", NONE, 9, (x, to) -> x.exception(0, NONE, to));
        numbers(Sentences::kinds, "from, ahead of sort and to", NONE, 9, (x, from) -> x.exception(1, from, 0));
        numbers(Sentences::kinds, "to, ahead of sort and from", NONE, 9, (x, to) -> x.exception(1, 8, to));
        isIndex(SlackHall::new, "from on an empty chip", x -> x.exception(0, 0, NONE));
        isIndex(SlackHall::new, "to on an empty chip", x -> x.exception(0, NONE, 0));
        fits(SlackHall::new, "any to any on an empty chip", x -> x.exception(0, NONE, NONE));
    }

    @Sentence(promise = 10, says = "Throws IllegalArgumentException if sort is not 0 or 2 to 4,"
            + " from is no START, or to is no FLOP, LATCH or OUT")
    static void fromIsAStart() {
        startsAlone("from", (x, from) -> x.exception(0, from, NONE));
        startsAlone("from, to an OUT", (x, from) -> x.exception(2, from, 8));
    }

    @Sentence(promise = 10, says = "or to is no FLOP, LATCH or OUT")
    static void toIsAFlopLatchOrOut() {
        endsAlone("to", (x, to) -> x.exception(0, NONE, to));
        endsAlone("to, from an IN", (x, to) -> x.exception(2, 0, to));
    }

    // ---- promise 11

    @Sentence(promise = 11, says = "Returns whether it was.")
    static void signReturnsWhetherItWas() {
        SlackHall x = new SlackHall();
        same("opened at first", x.sign(false), false);
        same("signed", x.sign(true), false);
        same("signed twice", x.sign(true), true);
        same("opened", x.sign(false), true);
        same("opened twice", x.sign(false), false);
    }

    @Sentence(promise = 11, says = "As the chip is SIGNED, each method of the first part but sign() and knock()"
            + " throws an IllegalStateException, ahead of all others.")
    static void aSignedChipIsToldNothing() {
        Call[] calls = {x -> x.clock(10, 0, 0, 0), x -> x.divide(0, 2, 0), x -> x.corner(8, 8),
            x -> x.node(IN, 0, 0, 0), x -> x.feed(6, 0), x -> x.size(1, 2), x -> x.wire(1, 2), x -> x.skew(6, 2),
            x -> x.exception(0, NONE, NONE)};
        Call[] wrongs = {x -> x.clock(-1, -1, -1, -1), x -> x.divide(-1, -1, -1), x -> x.corner(-1, -1),
            x -> x.node(-1, -1, -1, -1), x -> x.feed(-1, -1), x -> x.size(-1, -1), x -> x.wire(-1, -1),
            x -> x.skew(-1, -1), x -> x.exception(-1, -2, -2)};
        for (int i = 0; i < calls.length; i++) {
            isState(signed(Sentences::kinds), "call " + i, calls[i]);
            isState(signed(Sentences::kinds), "wrong call " + i, wrongs[i]);
            fits(Sentences::kinds, "call " + i + " of an open chip", calls[i]);
            fits(Promises10To12Test::openedAgain, "call " + i + " of a chip that is open again", calls[i]);
        }
        fits(signed(Sentences::kinds), "sign(true)", x -> x.sign(true));
        fits(signed(Sentences::kinds), "knock()", x -> x.knock());
    }

    private static SlackHall openedAgain() {
        SlackHall x = kinds();
        x.sign(true);
        x.sign(true);
        x.sign(false);
        return x;
    }

    @Sentence(promise = 11, says = "As the chip is SIGNED, each method of the first part but sign() and knock()"
            + " throws an IllegalStateException, ahead of all others.")
    static void aSignedChipIsAskedAsBefore() {
        SlackHall x = chain();
        long open = x.digest();
        double would = x.wouldLeave(2, 4);
        x.sign(true);
        same("digest, but for many(9)", x.digest(), signedDigest(open));
        same("wouldLeave", x.wouldLeave(2, 4), would);
        same("arrival", x.arrival(2, 2, 0, true, true), 3.375);
        same("best", x.best(), 10);
        isIndex(signed(Sentences::chain), "ofNode(5, 0)", y -> y.ofNode(5, 0));
        isArgument(signed(Sentences::chain), "wouldLeave(0, 3)", y -> y.wouldLeave(0, 3));
    }

    /** The digest of chain() with many(9) being 1, not 0: that is the 10th number of 63. */
    private static long signedDigest(long open) {
        long power = 1;
        for (int behind = 0; behind < 63 - 10; behind++) {
            power *= 31;
        }
        return open + power;
    }

    // ---- promise 12

    @Sentence(promise = 12, says = "KNOCKS, holding nothing: it is REFUSED, SIGNED or not.")
    static void aKnockIsRefusedSignedOrNot() {
        SlackHall x = new SlackHall();
        same("many(10) at first", x.many(10), 0);
        same("open", x.knock(), 1);
        x.sign(true);
        same("signed", x.knock(), 2);
        x.sign(false);
        same("open again", x.knock(), 3);
        same("many(10)", x.many(10), 3);
    }

    @Sentence(promise = 12, says = "Returns how often it was REFUSED ever, with this.")
    static void knocksAreCountedToTheLastCall() {
        SlackHall x = new SlackHall();
        for (int call = 1; call <= 512; call++) {
            same("call " + call, x.knock(), call);
        }
    }

    @Sentence(promise = 12, says = "A method that throws an exception changes nothing.")
    static void noOtherRefusalIsCounted() {
        isState(signed(Sentences::kinds), "feed", x -> x.feed(6, 0));
        SlackHall x = kinds();
        x.sign(true);
        for (int i = 0; i < 3; i++) {
            try {
                x.feed(6, 0);
            } catch (IllegalStateException e) {
                same("many(10)", x.many(10), 0);
            }
        }
        same("the first knock", x.knock(), 1);
    }

    public static void main(String[] args) throws IOException, IllegalAccessException {
        run(Promises10To12Test.class, 10, 12);
    }
}
