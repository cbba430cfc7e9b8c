/** Promises 7 and 8: the closing of a second, and the second under way. */
public final class SecondTest {
    private static final int NONE = VoyageKeeper.NONE;

    public static void main(String[] args) {
        Check.runCases(SecondTest.class);
    }

    // Promise 7: "Closes the second under way; that of t begins."

    static void secondIsClosedAndTheNextBegins() {
        VoyageKeeper x = new VoyageKeeper();
        x.sentence(2, 65);
        Check.no("has(0, 0) before", x.has(0, 0));
        x.second(1);
        Check.yes("has(0, 0)", x.has(0, 0));
        Check.no("has(0, 1)", x.has(0, 1));
        Check.due("now()", x.now(), 1);
    }

    static void secondsBetweenHaveNoBundle() {
        VoyageKeeper x = new VoyageKeeper();
        x.second(3);
        x.second(4);
        Check.no("has(0, 1)", x.has(0, 1));
        Check.no("has(0, 2)", x.has(0, 2));
        Check.due("free(0)", x.free(0), 38);
    }

    // "Answers how many stores got its bundle"

    static void allStoresGetIt() {
        Check.due("second(1)", new VoyageKeeper().second(1), 3);
    }

    static void eachStoreAloneFails() {
        for (int store = 0; store < 3; store++) {
            VoyageKeeper x = new VoyageKeeper();
            x.fail(store, true);
            Check.due("second(1) without store " + store, x.second(1), 2);
            for (int other = 0; other < 3; other++) {
                Check.due("has(" + other + ", 0)", x.has(other, 0) ? 1 : 0, other == store ? 0 : 1);
            }
        }
    }

    static void eachStoreAloneWorks() {
        for (int store = 0; store < 3; store++) {
            VoyageKeeper x = new VoyageKeeper();
            Ship.failAll(x, true);
            x.fail(store, false);
            Check.due("second(1) with store " + store, x.second(1), 1);
            Check.yes("has(" + store + ", 0)", x.has(store, 0));
        }
    }

    static void noStoreGetsIt() {
        VoyageKeeper x = new VoyageKeeper();
        Ship.failAll(x, true);
        Check.due("second(1)", x.second(1), 0);
        Check.due("now()", x.now(), 1);
    }

    static void fullStoresGetIt() {
        VoyageKeeper x = Ship.afterSeconds(40);
        Check.due("free(0)", x.free(0), 0);
        Check.due("second(41)", x.second(41), 3);
    }

    // "NONE when power was cut (t is under way, all the same, when it comes again)"

    static void powerIsCutInEachStore() {
        for (int store = 0; store < 3; store++) {
            VoyageKeeper x = new VoyageKeeper();
            x.cutAfter(store);
            Check.due("second(7), cut in store " + store, x.second(7), NONE);
        }
    }

    static void tIsUnderWayWhenPowerComesAgain() {
        VoyageKeeper x = new VoyageKeeper();
        x.cutAfter(0);
        x.second(7);
        x.start();
        Check.due("now()", x.now(), 7);
        x.sentence(1, 65);
        Check.due("second(8)", x.second(8), 3);
        Check.due("replay(0, 7)", x.replay(0, 7), 1);
    }

    static void tIsNotAboveItselfAfterACut() {
        VoyageKeeper x = new VoyageKeeper();
        x.cutAfter(0);
        x.second(7);
        x.start();
        Check.throwsArgument("second(7)", () -> x.second(7));
    }

    static void cutThatIsDueJustBehindTheBundleIsNone() {
        VoyageKeeper x = new VoyageKeeper();
        x.cutAfter(3);
        Check.due("second(1)", x.second(1), 3);
        Check.no("start()", x.start());
    }

    static void cutWithNoPageToWriteIsNone() {
        VoyageKeeper x = new VoyageKeeper();
        Ship.failAll(x, true);
        x.cutAfter(0);
        Check.due("second(1)", x.second(1), 0);
        Check.no("start()", x.start());
    }

    static void cutToTheLastSecond() {
        VoyageKeeper x = new VoyageKeeper();
        x.cutAfter(0);
        Check.due("second(9999)", x.second(9999), NONE);
        x.start();
        Check.due("now()", x.now(), 9999);
        Check.throwsArgument("second(10000)", () -> x.second(10000));
    }

    // "IllegalStateException: power is off"

    static void secondWithPowerOff() {
        VoyageKeeper x = Ship.withoutPower();
        Check.throwsState("second(2)", () -> x.second(2));
    }

    // "the one named first when several would do"

    static void powerOffComesBeforeATooSmall() {
        VoyageKeeper x = Ship.withoutPower();
        Check.throwsState("second(1)", () -> x.second(1));
        Check.throwsState("second(0)", () -> x.second(0));
        Check.throwsState("second(-1)", () -> x.second(-1));
    }

    static void powerOffComesBeforeATooLarge() {
        VoyageKeeper x = Ship.withoutPower();
        Check.throwsState("second(10000)", () -> x.second(10000));
    }

    // "IllegalArgumentException: t is not above the second under way"

    static void tIsTheFirstSecond() {
        VoyageKeeper x = new VoyageKeeper();
        Check.throwsArgument("second(0)", () -> x.second(0));
    }

    static void tIsBelow0() {
        VoyageKeeper x = new VoyageKeeper();
        Check.throwsArgument("second(-1)", () -> x.second(-1));
        Check.throwsArgument("second(MIN)", () -> x.second(Integer.MIN_VALUE));
    }

    static void tIsTheSecondUnderWay() {
        VoyageKeeper x = Ship.at(7);
        Check.throwsArgument("second(7)", () -> x.second(7));
    }

    static void tIsOneBelowTheSecondUnderWay() {
        VoyageKeeper x = Ship.at(7);
        Check.throwsArgument("second(6)", () -> x.second(6));
    }

    static void tIsOneAboveTheSecondUnderWay() {
        VoyageKeeper x = Ship.at(7);
        Check.due("second(8)", x.second(8), 3);
    }

    // "or above 9999"

    static void tIs9999() {
        VoyageKeeper x = new VoyageKeeper();
        Check.due("second(9999)", x.second(9999), 3);
        Check.due("now()", x.now(), 9999);
    }

    static void tIs10000() {
        VoyageKeeper x = new VoyageKeeper();
        Check.throwsArgument("second(10000)", () -> x.second(10000));
    }

    static void tIsFarAbove9999() {
        VoyageKeeper x = new VoyageKeeper();
        Check.throwsArgument("second(MAX)", () -> x.second(Integer.MAX_VALUE));
    }

    static void second9999IsNeverClosed() {
        VoyageKeeper x = Ship.at(9998);
        x.second(9999);
        Check.throwsArgument("second(9999)", () -> x.second(9999));
        Check.throwsArgument("second(10000)", () -> x.second(10000));
        Check.due("kept(0, true)", x.kept(0, true), 9998);
    }

    // Promise 8: "The second under way."

    static void nowFollowsEachSecond() {
        VoyageKeeper x = new VoyageKeeper();
        int[] times = {1, 2, 9, 10, 100, 9999};
        for (int t : times) {
            x.second(t);
            Check.due("now()", x.now(), t);
        }
    }

    static void nowAfterAThrow() {
        VoyageKeeper x = Ship.at(7);
        Check.throwsArgument("second(7)", () -> x.second(7));
        Check.throwsArgument("second(10000)", () -> x.second(10000));
        Check.due("now()", x.now(), 7);
    }

    static void nowWithPowerOff() {
        VoyageKeeper x = Ship.at(7);
        x.cutAfter(0);
        x.second(12);
        Check.due("now()", x.now(), 12);
    }
}
