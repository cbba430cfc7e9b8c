/** Promises 9 to 11: freezes are made, ended and told. TermsTest has what they keep from being taken out. */
public final class FreezingTest {
    private static final int NONE = VoyageKeeper.NONE;

    public static void main(String[] args) {
        Check.runCases(FreezingTest.class);
    }

    /** Seconds 0 to 5 have 15 pages in all, 5 of them second 0; second 6 is under way. */
    private static VoyageKeeper with15Pages() {
        VoyageKeeper x = new VoyageKeeper();
        Ship.fillFivePages(x);
        x.second(1);
        for (int t = 2; t <= 6; t++) {
            Ship.fillTwoPages(x);
            x.second(t);
        }
        return x;
    }

    private static VoyageKeeper withThreeFreezes() {
        VoyageKeeper x = Ship.at(100);
        for (int i = 0; i < 3; i++) {
            x.freeze(0, i);
        }
        return x;
    }

    // Promise 9: "from so many seconds before the one under way ... to so many after it"

    static void freezeOfTheSecondUnderWayAlone() {
        VoyageKeeper x = Ship.at(100);
        Check.due("freeze(0, 0)", x.freeze(0, 0), 0);
        Check.due("first", x.frozen(0, false), 100);
        Check.due("last", x.frozen(0, true), 100);
    }

    static void freezeBeforeAndAfter() {
        VoyageKeeper x = Ship.at(100);
        Check.due("freeze(5, 2)", x.freeze(5, 2), 0);
        Check.due("first", x.frozen(0, false), 95);
        Check.due("last", x.frozen(0, true), 102);
    }

    // "(not before 0)"

    private static int firstFrozen(int now, int before) {
        VoyageKeeper x = now == 0 ? new VoyageKeeper() : Ship.at(now);
        x.freeze(before, 0);
        return x.frozen(0, false);
    }

    static void freezeFromBefore0() {
        Check.due("9 before 0", firstFrozen(0, 9), 0);
        Check.due("1 before 0", firstFrozen(0, 1), 0);
        Check.due("9 before 8", firstFrozen(8, 9), 0);
    }

    static void freezeFromJust0() {
        Check.due("0 before 0", firstFrozen(0, 0), 0);
        Check.due("9 before 9", firstFrozen(9, 9), 0);
    }

    static void freezeFromJustBehind0() {
        Check.due("9 before 10", firstFrozen(10, 9), 1);
    }

    static void freezeToBehindTheLastSecond() {
        VoyageKeeper x = Ship.at(9999);
        Check.due("freeze(0, 3)", x.freeze(0, 3), 0);
        Check.due("last", x.frozen(0, true), 10002);
    }

    // "Answers the least number that is free for it."

    static void numbersInOrder() {
        VoyageKeeper x = Ship.at(100);
        for (int number = 0; number < 3; number++) {
            Check.due("freeze(0, 0)", x.freeze(0, 0), number);
        }
    }

    static void eachNumberThatWasReleased() {
        for (int number = 0; number < 3; number++) {
            VoyageKeeper x = withThreeFreezes();
            x.release(number);
            Check.due("freeze(1, 1)", x.freeze(1, 1), number);
            Check.due("first", x.frozen(number, false), 99);
            Check.due("last", x.frozen(number, true), 101);
        }
    }

    static void leastOfTwoThatWereReleased() {
        VoyageKeeper x = withThreeFreezes();
        x.release(2);
        x.release(0);
        Check.due("freeze(0, 0)", x.freeze(0, 0), 0);
        Check.due("freeze(0, 0) again", x.freeze(0, 0), 2);
    }

    static void refusedFreezeTakesNoNumber() {
        VoyageKeeper x = Ship.at(100);
        x.freeze(10, 0);
        x.freeze(0, 4);
        Check.due("freeze(0, 0)", x.freeze(0, 0), 0);
    }

    // "NONE when before or after is not 0 .. 9"

    static void beforeOfMinus1() {
        Check.due("freeze(-1, 0)", Ship.at(100).freeze(-1, 0), NONE);
    }

    static void beforeOf9() {
        Check.due("freeze(9, 0)", Ship.at(100).freeze(9, 0), 0);
    }

    static void beforeOf10() {
        Check.due("freeze(10, 0)", Ship.at(100).freeze(10, 0), NONE);
    }

    static void beforeOf10ThatWouldReachBefore0() {
        Check.due("freeze(10, 0)", Ship.at(3).freeze(10, 0), NONE);
    }

    static void afterOfMinus1() {
        Check.due("freeze(0, -1)", Ship.at(100).freeze(0, -1), NONE);
        Check.due("freeze(5, -1)", Ship.at(100).freeze(5, -1), NONE);
    }

    static void afterOf9IsTooManyPages() {
        Check.due("freeze(0, 9)", Ship.at(100).freeze(0, 9), NONE);
    }

    static void afterOf10() {
        Check.due("freeze(0, 10)", Ship.at(100).freeze(0, 10), NONE);
    }

    static void stretchesFarOff() {
        VoyageKeeper x = Ship.at(100);
        for (int far : Ship.FAR_OFF) {
            Check.due("freeze(" + far + ", 0)", x.freeze(far, 0), NONE);
            Check.due("freeze(0, " + far + ")", x.freeze(0, far), NONE);
            Check.due("freeze(" + far + ", " + far + ")", x.freeze(far, far), NONE);
        }
    }

    // "there are 3"

    static void fourthFreeze() {
        VoyageKeeper x = withThreeFreezes();
        Check.due("freeze(0, 0)", x.freeze(0, 0), NONE);
    }

    // "with 5 for each second from the one under way on that lies in some freeze, more than 20"

    static void twentyPagesToCome() {
        Check.due("freeze(0, 3)", new VoyageKeeper().freeze(0, 3), 0);
    }

    static void twentyFivePagesToCome() {
        Check.due("freeze(0, 4)", new VoyageKeeper().freeze(0, 4), NONE);
    }

    static void secondInTwoFreezesCountsOnce() {
        VoyageKeeper x = new VoyageKeeper();
        x.freeze(0, 1);
        Check.due("freeze(0, 3)", x.freeze(0, 3), 1);
        Check.due("freeze(0, 2)", x.freeze(0, 2), 2);
    }

    static void secondsToComeOfOtherFreezesCount() {
        VoyageKeeper x = with15Pages();
        x.freeze(0, 1);
        Check.due("15, and 10 for seconds 6 and 7", x.freeze(6, 0), NONE);
        Check.due("10, and 10 for seconds 6 and 7", x.freeze(5, 0), 1);
    }

    static void farthestSecondToComeOfAnotherFreezeCounts() {
        VoyageKeeper x = with15Pages();
        x.freeze(0, 3);
        Check.due("2, and 20 for seconds 6 to 9", x.freeze(1, 0), NONE);
        Check.due("20 for seconds 6 to 9", x.freeze(0, 0), 1);
    }

    static void secondsBehind9999CountLikeOthers() {
        Check.due("freeze(0, 4)", Ship.at(9999).freeze(0, 4), NONE);
        Check.due("freeze(0, 3)", Ship.at(9999).freeze(0, 3), 0);
    }

    // "the pages of all frozen bundles would then be ... more than 20"

    static void twentyPagesWithBundles() {
        Check.due("freeze(6, 0)", with15Pages().freeze(6, 0), 0);
    }

    static void twentyOnePagesWithBundles() {
        VoyageKeeper x = with15Pages();
        x.second(7);
        Check.due("freeze(7, 0)", x.freeze(7, 0), NONE);
    }

    static void bundlesBeforeTheFreezeDoNotCount() {
        VoyageKeeper x = with15Pages();
        x.second(7);
        Check.due("freeze(6, 0)", x.freeze(6, 0), 0);
    }

    static void oneFrozenPageAndTwentyToCome() {
        Check.due("freeze(1, 3)", Ship.at(1).freeze(1, 3), NONE);
        Check.due("freeze(0, 3)", Ship.at(1).freeze(0, 3), 0);
        Check.due("freeze(1, 2)", Ship.at(1).freeze(1, 2), 0);
    }

    static void bundleInTwoFreezesCountsOnce() {
        VoyageKeeper x = with15Pages();
        x.freeze(6, 0);
        Check.due("freeze(6, 0) again", x.freeze(6, 0), 1);
    }

    static void bundlesOfOtherFreezesCount() {
        VoyageKeeper x = with15Pages();
        x.freeze(6, 0);
        x.second(7);
        Check.due("16 and 5", x.freeze(0, 0), NONE);
    }

    static void bundlesOfOtherFreezesUpTo20() {
        VoyageKeeper x = with15Pages();
        x.freeze(6, 0);
        x.fail(0, true);
        x.second(7);
        Check.due("15 and 5", x.freeze(0, 0), 1);
    }

    static void bundlesOfAReleasedFreezeDoNotCount() {
        VoyageKeeper x = with15Pages();
        x.freeze(6, 0);
        x.release(0);
        x.second(7);
        Check.due("freeze(0, 2)", x.freeze(0, 2), 0);
    }

    static void freezeThatHasPassedCountsItsBundlesAlone() {
        VoyageKeeper x = new VoyageKeeper();
        x.freeze(0, 3);
        x.second(50);
        Check.due("1 and 20", x.freeze(0, 3), NONE);
        Check.due("1 and 15", x.freeze(0, 2), 1);
    }

    static void secondsThatWereLeftOutCountNothing() {
        Check.due("freeze(3, 3)", Ship.at(4).freeze(3, 3), 0);
        Check.due("freeze(4, 3)", Ship.at(4).freeze(4, 3), NONE);
    }

    static void unreadableBundlesCount() {
        VoyageKeeper x = Ship.at(1);
        x.spoil(0, 0);
        Check.due("freeze(1, 3)", x.freeze(1, 3), NONE);
    }

    static void bundlesOfAFailedMainStoreCount() {
        VoyageKeeper x = Ship.at(1);
        x.fail(0, true);
        Check.due("freeze(1, 3)", x.freeze(1, 3), NONE);
    }

    static void bundlesOfTheCapsulesAloneDoNotCount() {
        VoyageKeeper x = new VoyageKeeper();
        x.fail(0, true);
        x.second(1);
        Check.yes("has(1, 0)", x.has(1, 0));
        Check.due("freeze(1, 3)", x.freeze(1, 3), 0);
    }

    static void whatIsUnderWayCounts5HoweverLittleItIs() {
        VoyageKeeper x = with15Pages();
        x.second(7);
        Check.due("freeze(7, 0)", x.freeze(7, 0), NONE);
        x.second(8);
        Check.due("freeze(7, 0) from 1 on", x.freeze(7, 0), 0);
    }

    // "IllegalStateException: power is off."

    static void freezeWithPowerOff() {
        VoyageKeeper x = Ship.withoutPower();
        Check.throwsState("freeze(0, 0)", () -> x.freeze(0, 0));
    }

    static void wrongFreezeWithPowerOff() {
        VoyageKeeper x = Ship.withoutPower();
        Check.throwsState("freeze(-1, 0)", () -> x.freeze(-1, 0));
        Check.throwsState("freeze(0, 10)", () -> x.freeze(0, 10));
        Check.throwsState("freeze(0, 9)", () -> x.freeze(0, 9));
    }

    static void fourthFreezeWithPowerOff() {
        VoyageKeeper x = withThreeFreezes();
        x.cutAfter(0);
        x.second(101);
        Check.throwsState("freeze(0, 0)", () -> x.freeze(0, 0));
    }

    // Promise 10: "Ends a freeze."

    static void eachFreezeIsReleased() {
        for (int number = 0; number < 3; number++) {
            VoyageKeeper x = withThreeFreezes();
            Check.yes("release(" + number + ")", x.release(number));
            for (int other = 0; other < 3; other++) {
                int due = other == number ? NONE : 100 + other;
                Check.due("frozen(" + other + ", true)", x.frozen(other, true), due);
            }
        }
    }

    static void releasedBundleIsTakenOutInItsTurn() {
        VoyageKeeper x = new VoyageKeeper();
        x.freeze(0, 0);
        Ship.closeSeconds(x, 45);
        Check.yes("has(0, 0)", x.has(0, 0));
        x.release(0);
        x.second(46);
        Check.no("has(0, 0) when released", x.has(0, 0));
        Check.due("kept(0, false)", x.kept(0, false), 6);
    }

    static void secondOfAnotherFreezeStaysFrozen() {
        VoyageKeeper x = new VoyageKeeper();
        x.freeze(0, 0);
        x.freeze(0, 1);
        x.release(0);
        Ship.closeSeconds(x, 45);
        Check.yes("has(0, 0)", x.has(0, 0));
        Check.yes("has(0, 1)", x.has(0, 1));
    }

    static void freezeOfASecondToComeIsReleasedBeforeIt() {
        VoyageKeeper x = new VoyageKeeper();
        x.freeze(0, 3);
        x.release(0);
        Ship.closeSeconds(x, 45);
        Check.due("kept(0, false)", x.kept(0, false), 5);
    }

    // "false when there is none such"

    static void releaseOfMinus1() {
        Check.no("release(-1)", withThreeFreezes().release(-1));
    }

    static void releaseOf3() {
        Check.no("release(3)", withThreeFreezes().release(3));
    }

    static void releaseFarOff() {
        VoyageKeeper x = withThreeFreezes();
        for (int far : Ship.FAR_OFF) {
            Check.no("release(" + far + ")", x.release(far));
        }
    }

    static void releaseOfAFreezeThatNeverWas() {
        VoyageKeeper x = new VoyageKeeper();
        x.freeze(0, 0);
        Check.no("release(1)", x.release(1));
        Check.no("release(2)", x.release(2));
    }

    static void releaseAgain() {
        VoyageKeeper x = withThreeFreezes();
        x.release(1);
        Check.no("release(1)", x.release(1));
    }

    static void releaseWithPowerOff() {
        VoyageKeeper x = new VoyageKeeper();
        x.freeze(0, 2);
        x.cutAfter(0);
        x.second(1);
        Check.throwsState("release(0)", () -> x.release(0));
        Check.due("frozen(0, true)", x.frozen(0, true), 2);
    }

    static void wrongReleaseWithPowerOff() {
        VoyageKeeper x = Ship.withoutPower();
        Check.throwsState("release(0)", () -> x.release(0));
        Check.throwsState("release(-1)", () -> x.release(-1));
        Check.throwsState("release(3)", () -> x.release(3));
    }

    // Promise 11: "The first second of a freeze (last false), or the last one"

    static void edgesStayAsTimeGoesOn() {
        VoyageKeeper x = Ship.at(100);
        x.freeze(3, 2);
        x.second(500);
        Check.due("frozen(0, false)", x.frozen(0, false), 97);
        Check.due("frozen(0, true)", x.frozen(0, true), 102);
    }

    static void eachFreezeHasItsOwnEdges() {
        VoyageKeeper x = Ship.at(100);
        for (int i = 0; i < 3; i++) {
            x.freeze(9 - i, i);
        }
        for (int i = 0; i < 3; i++) {
            Check.due("frozen(" + i + ", false)", x.frozen(i, false), 91 + i);
            Check.due("frozen(" + i + ", true)", x.frozen(i, true), 100 + i);
        }
    }

    // "NONE when there is none such"

    private static void isNoFreeze(VoyageKeeper x, int number) {
        Check.due("frozen(" + number + ", false)", x.frozen(number, false), NONE);
        Check.due("frozen(" + number + ", true)", x.frozen(number, true), NONE);
    }

    static void frozenOfMinus1() {
        isNoFreeze(withThreeFreezes(), -1);
    }

    static void frozenOf3() {
        isNoFreeze(withThreeFreezes(), 3);
    }

    static void frozenFarOff() {
        for (int far : Ship.FAR_OFF) {
            isNoFreeze(withThreeFreezes(), far);
        }
    }

    static void frozenOfAFreezeThatNeverWas() {
        VoyageKeeper x = new VoyageKeeper();
        x.freeze(0, 0);
        isNoFreeze(x, 1);
        isNoFreeze(x, 2);
    }

    static void frozenOfAReleasedFreeze() {
        VoyageKeeper x = withThreeFreezes();
        x.release(0);
        isNoFreeze(x, 0);
    }

    static void frozenOfARefusedFreeze() {
        VoyageKeeper x = new VoyageKeeper();
        x.freeze(0, 4);
        isNoFreeze(x, 0);
    }

    static void frozenWithPowerOff() {
        VoyageKeeper x = new VoyageKeeper();
        x.freeze(0, 2);
        x.cutAfter(0);
        x.second(1);
        Check.due("frozen(0, false)", x.frozen(0, false), 0);
        Check.due("frozen(0, true)", x.frozen(0, true), 2);
        isNoFreeze(x, 1);
    }
}
