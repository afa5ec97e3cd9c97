import java.io.IOException;

/** The sentences of promises 1 to 4 that name a boundary: a new object, CLOCKS and CORNERS. */
public final class Promises01To04Test extends Sentences {

    private static SlackHall fourClocks() {
        SlackHall x = clocked();
        x.divide(0, 2, 1);
        x.clock(12, 1, 2, 1);
        x.divide(2, 3, 4);
        return x;
    }

    private static SlackHall threeCorners() {
        SlackHall x = chain();
        x.corner(12, 4);
        x.corner(16, 1);
        return x;
    }

    // ---- promise 1

    @Sentence(promise = 1, says = "Creates a chip without NODES, that is not SIGNED.")
    static void aNewChipHoldsNothing() {
        SlackHall x = new SlackHall();
        for (int what : new int[] {0, 2, 3, 4, 5, 6, 7, 8, 9, 10}) {
            same("many(" + what + ")", x.many(what), 0);
        }
        same("sign(false)", x.sign(false), false);
        numbers(SlackHall::new, "ofNode", 0, 0, (y, number) -> y.ofNode(number, 0));
        numbers(SlackHall::new, "ofClock", 0, 0, (y, number) -> y.ofClock(number, 0));
    }

    @Sentence(promise = 1, says = "Creates a chip without NODES, that is not SIGNED.")
    static void twoChipsShareNothing() {
        SlackHall x = new SlackHall();
        SlackHall y = chain();
        y.corner(12, 4);
        y.exception(0, NONE, NONE);
        y.sign(true);
        y.knock();
        for (int what = 0; what <= 10; what++) {
            same("many(" + what + ")", x.many(what), what == 1 ? 1 : 0);
        }
        same("a clock of the other", x.clock(4, 0, 0, 0), 0);
        same("its first node", x.node(IN, 0, 0, 0), 0);
    }

    @Sentence(promise = 1, says = "The CORNER 0 is there from the first on, with 1.0 and 1.0.")
    static void theCornerZeroIsThere() {
        same("many(1)", new SlackHall().many(1), 1);
        fits(SlackHall::new, "isIdle(0)", x -> x.isIdle(0));
        isIndex(SlackHall::new, "isIdle(1)", x -> x.isIdle(1));
        SlackHall y = chain();
        // The FLOP has a LOAD of 1.5: it takes 3.375.
        same("late", y.arrival(2, 2, 0, true, true), 3.375);
        same("early", y.arrival(2, 2, 0, false, true), 3.375);
    }

    // ---- promise 2

    @Sentence(promise = 2, says = "CLOCKS: at most 4, numbered from 0")
    static void clocksAreNumberedFromZero() {
        SlackHall x = new SlackHall();
        for (int number = 0; number < 4; number++) {
            same("number", x.clock(4 + number, 0, 0, 0), number);
        }
        same("many(0)", x.many(0), 4);
        for (int number = 0; number < 4; number++) {
            same("period of " + number, x.ofClock(number, 0), 4 + number);
        }
    }

    @Sentence(promise = 2, says = "a PERIOD (a told one 4 to 40)")
    static void aPeriodIsFourToForty() {
        bounds(SlackHall::new, "period", 4, 40, (x, period) -> x.clock(period, 0, 0, 0));
        SlackHall x = new SlackHall();
        x.clock(4, 0, 0, 0);
        x.clock(40, 0, 0, 0);
        same("the least", x.ofClock(0, 0), 4);
        same("the greatest", x.ofClock(1, 0), 40);
    }

    @Sentence(promise = 2, says = "(doubles, told in quarters: 0 to 40 of these, and 0 to 20)")
    static void aLatencyIsZeroToForty() {
        bounds(SlackHall::new, "latency", 0, 40, (x, latency) -> x.clock(4, latency, 0, 0));
        SlackHall x = new SlackHall();
        x.clock(10, 40, 0, 0);
        x.clock(10, 1, 0, 0);
        x.clock(10, 0, 0, 0);
        same("the greatest", x.ofClock(0, 1), 40);
        same("the least", x.ofClock(2, 1), 0);
        same("10.0 of the start", x.left(0, inToFlop(x, 0, 2), 0, true), 10.0 - 1.0 - 10.0);
        same("10.0 of the end", x.left(2, inToFlop(x, 2, 0), 0, true), 10.0 - 1.0 + 10.0);
        same("0.25 of the start", x.left(4, inToFlop(x, 1, 2), 0, true), 10.0 - 1.0 - 0.25);
    }

    @Sentence(promise = 2, says = "(doubles, told in quarters: 0 to 40 of these, and 0 to 20)")
    static void anUnsureIsZeroToTwenty() {
        bounds(SlackHall::new, "unsure", 0, 20, (x, unsure) -> x.clock(4, 0, unsure, 0));
        SlackHall x = new SlackHall();
        x.clock(10, 0, 20, 0);
        x.clock(10, 0, 1, 0);
        same("the greatest", x.ofClock(0, 2), 20);
        same("5.0", x.left(0, inToFlop(x, 0, 0), 0, true), 10.0 - 1.0 - 5.0);
        same("0.25", x.left(2, inToFlop(x, 1, 1), 0, true), 10.0 - 1.0 - 0.25);
    }

    @Sentence(promise = 2, says = "a GROUP (0 or 1)")
    static void aGroupIsZeroOrOne() {
        bounds(SlackHall::new, "group", 0, 1, (x, group) -> x.clock(4, 0, 0, group));
        SlackHall x = new SlackHall();
        x.clock(4, 0, 0, 0);
        x.clock(4, 0, 0, 1);
        same("the least", x.ofClock(0, 3), 0);
        same("the greatest", x.ofClock(1, 3), 1);
    }

    @Sentence(promise = 2, says = "a ROOT (itself, of a told one)")
    static void theRootOfAToldOneIsItself() {
        SlackHall x = new SlackHall();
        for (int number = 0; number < 4; number++) {
            x.clock(4, 0, 0, 0);
            same("root", x.ofClock(number, 4), number);
        }
    }

    @Sentence(promise = 2, says = "Throws IllegalStateException if it is SIGNED, or there are 4")
    static void aSignedChipTakesNoClock() {
        isState(signed(SlackHall::new), "a good one", x -> x.clock(4, 0, 0, 0));
        isState(signed(SlackHall::new), "ahead of the others", x -> x.clock(3, 41, 21, 2));
    }

    @Sentence(promise = 2, says = "or there are 4")
    static void theFifthClockIsRefused() {
        fits(Promises01To04Test::threeClocks, "the fourth", x -> x.clock(4, 0, 0, 0));
        isState(Promises01To04Test::fourClocks, "the fifth", x -> x.clock(4, 0, 0, 0));
        isState(Promises01To04Test::fourClocks, "ahead of the others", x -> x.clock(41, -1, -1, -1));
    }

    private static SlackHall threeClocks() {
        SlackHall x = clocked();
        x.divide(0, 4, 20);
        x.clock(5, 6, 7, 1);
        return x;
    }

    @Sentence(promise = 2, says = "Throws IllegalArgumentException if one of the others is not as section 1 says")
    static void eachOfTheOthersIsLookedAt() {
        isArgument(Sentences::clocked, "period alone", x -> x.clock(3, 40, 20, 1));
        isArgument(Sentences::clocked, "latency alone", x -> x.clock(40, 41, 20, 1));
        isArgument(Sentences::clocked, "unsure alone", x -> x.clock(40, 40, 21, 1));
        isArgument(Sentences::clocked, "group alone", x -> x.clock(40, 40, 20, 2));
        isArgument(Sentences::clocked, "all", x -> x.clock(0, -1, -1, -1));
    }

    @Sentence(promise = 2, says = "A method that throws an exception changes nothing.")
    static void aRefusedClockTakesNoNumber() {
        SlackHall x = new SlackHall();
        for (int wrongs = 0; wrongs < 5; wrongs++) {
            try {
                x.clock(41, 0, 0, 0);
            } catch (IllegalArgumentException e) {
                same("many(0)", x.many(0), 0);
            }
        }
        same("the first", x.clock(4, 0, 0, 0), 0);
    }

    // ---- promise 3

    @Sentence(promise = 3, says = "the PERIOD of another one times 2 to 4")
    static void aClockIsDividedByTwoToFour() {
        bounds(Sentences::clocked, "by", 2, 4, (x, by) -> x.divide(0, by, 0));
        SlackHall x = clocked();
        for (int by = 2; by <= 4; by++) {
            same("number", x.divide(0, by, 0), by - 1);
            same("period by " + by, x.ofClock(by - 1, 0), 10 * by);
        }
        same("that of the other one", x.ofClock(0, 0), 10);
    }

    @Sentence(promise = 3, says = "a PERIOD (a told one 4 to 40)")
    static void aDividedPeriodMayBeGreater() {
        SlackHall x = new SlackHall();
        x.clock(40, 0, 0, 0);
        same("of a told one", x.divide(0, 4, 0), 1);
        same("of a divided one", x.divide(1, 4, 0), 2);
        same("of that one", x.divide(2, 4, 0), 3);
        same("the greatest", x.ofClock(3, 0), 2560);
        same("with a gap so great", x.left(0, inToFlop(x, 3, 3), 0, true), 2559.0);
        x.exception(4, NONE, NONE);
        same("and four times that", x.left(0, 1, 0, true), 10239.0);
    }

    @Sentence(promise = 3, says = "its LATENCY and so many quarters more (0 to 20)")
    static void aLatencyIsZeroToTwentyMore() {
        bounds(Sentences::clocked, "latency", 0, 20, (x, latency) -> x.divide(0, 2, latency));
        SlackHall x = new SlackHall();
        x.clock(4, 40, 0, 0);
        x.divide(0, 2, 0);
        x.divide(1, 2, 20);
        x.divide(2, 2, 20);
        same("0 more", x.ofClock(1, 1), 40);
        same("20 more", x.ofClock(2, 1), 60);
        same("twice 20 more", x.ofClock(3, 1), 80);
        same("that of the other one", x.ofClock(0, 1), 40);
    }

    @Sentence(promise = 3, says = "and its UNSURE, GROUP and ROOT")
    static void aDividedOneHasTheRootOfItsRoot() {
        SlackHall x = clocked();
        x.clock(8, 3, 20, 1);
        x.divide(1, 2, 0);
        x.divide(2, 2, 0);
        for (int clock = 1; clock <= 3; clock++) {
            same("unsure of " + clock, x.ofClock(clock, 2), 20);
            same("group of " + clock, x.ofClock(clock, 3), 1);
            same("root of " + clock, x.ofClock(clock, 4), 1);
        }
    }

    @Sentence(promise = 3, says = "Throws IllegalStateException if it is SIGNED, or there are 4")
    static void aSignedChipTakesNoDividedClock() {
        isState(signed(Sentences::clocked), "a good one", x -> x.divide(0, 2, 0));
        isState(signed(Sentences::clocked), "ahead of the others", x -> x.divide(1, 5, 21));
    }

    @Sentence(promise = 3, says = "or there are 4")
    static void theFifthClockIsNotDividedEither() {
        fits(Promises01To04Test::threeClocks, "the fourth", x -> x.divide(2, 2, 0));
        isState(Promises01To04Test::fourClocks, "the fifth", x -> x.divide(0, 2, 0));
        isState(Promises01To04Test::fourClocks, "ahead of the others", x -> x.divide(-1, 1, -1));
    }

    @Sentence(promise = 3, says = "Throws IndexOutOfBoundsException if there is no such CLOCK")
    static void theClockToDivideMustBeThere() {
        numbers(SlackHall::new, "clock of none", 0, 0, (x, clock) -> x.divide(clock, 2, 0));
        numbers(Promises01To04Test::threeClocks, "clock of three", 0, 3, (x, clock) -> x.divide(clock, 2, 0));
        numbers(Promises01To04Test::threeClocks, "ahead of the rest", 0, 3, (x, clock) -> x.divide(clock, 5, 21));
        fits(Promises01To04Test::threeClocks, "the first", x -> x.divide(0, 2, 0));
        fits(Promises01To04Test::threeClocks, "the last", x -> x.divide(2, 2, 0));
    }

    @Sentence(promise = 3, says = "Throws IllegalArgumentException if by is not 2 to 4, or latency not 0 to 20")
    static void byAndLatencyAreLookedAt() {
        isArgument(Sentences::clocked, "by alone", x -> x.divide(0, 1, 20));
        isArgument(Sentences::clocked, "latency alone", x -> x.divide(0, 4, 21));
        isArgument(Sentences::clocked, "both", x -> x.divide(0, 0, -1));
        isArgument(Sentences::clocked, "by less than nothing", x -> x.divide(0, -2, 0));
    }

    // ---- promise 4

    @Sentence(promise = 4, says = "CORNERS: at most 3, numbered from 0")
    static void cornersAreNumberedBehindTheCornerZero() {
        SlackHall x = new SlackHall();
        same("the first that is told", x.corner(8, 8), 1);
        same("the second", x.corner(8, 8), 2);
        same("many(1)", x.many(1), 3);
    }

    @Sentence(promise = 4, says = "told in eighths: 8 to 16, 1 to 8")
    static void aLateIsEightToSixteen() {
        bounds(Sentences::chain, "late", 8, 16, (x, late) -> x.corner(late, 8));
        SlackHall x = chain();
        x.corner(8, 1);
        x.corner(16, 1);
        same("1.0", x.arrival(2, 2, 1, true, true), 3.375);
        same("2.0", x.arrival(2, 2, 2, true, true), 6.75);
        SlackHall y = chain();
        y.corner(9, 1);
        same("1.125", y.arrival(2, 2, 1, true, true), 3.375 * 1.125);
    }

    @Sentence(promise = 4, says = "told in eighths: 8 to 16, 1 to 8")
    static void anEarlyIsOneToEight() {
        bounds(Sentences::chain, "early", 1, 8, (x, early) -> x.corner(8, early));
        SlackHall x = chain();
        x.corner(16, 1);
        x.corner(16, 8);
        same("0.125", x.arrival(2, 2, 1, false, true), 3.375 / 8.0);
        same("1.0", x.arrival(2, 2, 2, false, true), 3.375);
    }

    @Sentence(promise = 4, says = "Throws IllegalStateException if it is SIGNED, or there are 3")
    static void aSignedChipTakesNoCorner() {
        isState(signed(Sentences::chain), "a good one", x -> x.corner(8, 8));
        isState(signed(Sentences::chain), "ahead of the others", x -> x.corner(7, 9));
    }

    @Sentence(promise = 4, says = "or there are 3")
    static void theFourthCornerIsRefused() {
        isState(Promises01To04Test::threeCorners, "a good one", x -> x.corner(8, 8));
        isState(Promises01To04Test::threeCorners, "ahead of the others", x -> x.corner(17, 0));
    }

    @Sentence(promise = 4, says = "Throws IllegalArgumentException if late is not 8 to 16, or early not 1 to 8")
    static void lateAndEarlyAreLookedAt() {
        isArgument(Sentences::chain, "late alone", x -> x.corner(7, 8));
        isArgument(Sentences::chain, "early alone", x -> x.corner(16, 0));
        isArgument(Sentences::chain, "both", x -> x.corner(17, 9));
        isArgument(Sentences::chain, "one for the other", x -> x.corner(1, 16));
    }

    public static void main(String[] args) throws IOException, IllegalAccessException {
        run(Promises01To04Test.class, 1, 4);
    }
}
