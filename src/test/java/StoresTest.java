/** Promises 12 to 14, 22, 25 and 26: what the stores have, and their faults. */
public final class StoresTest {
    private static final int NONE = VoyageKeeper.NONE;
    private static final int[] PAGES = {40, 20, 10};
    private static final int[] NO_STORES = {-1, 3, Integer.MIN_VALUE, Integer.MAX_VALUE};

    public static void main(String[] args) {
        Check.runCases(StoresTest.class);
    }

    // Promise 12: "The earliest second (last false), or the latest one, of which a store has a bundle"

    static void keptOfOneBundle() {
        for (int store = 0; store < 3; store++) {
            VoyageKeeper x = Ship.at(1);
            Check.due("kept(" + store + ", false)", x.kept(store, false), 0);
            Check.due("kept(" + store + ", true)", x.kept(store, true), 0);
        }
    }

    static void keptOfSeveralBundles() {
        VoyageKeeper x = new VoyageKeeper();
        x.second(5);
        x.second(8);
        x.second(100);
        Check.due("kept(1, false)", x.kept(1, false), 0);
        Check.due("kept(1, true)", x.kept(1, true), 8);
    }

    static void keptIsNotTheSecondUnderWay() {
        VoyageKeeper x = Ship.at(7);
        x.sentence(0, 65);
        Check.due("kept(0, true)", x.kept(0, true), 0);
    }

    static void keptWhenTheStoreRolledOver() {
        VoyageKeeper x = Ship.afterSeconds(13);
        Check.due("kept(2, false)", x.kept(2, false), 3);
        Check.due("kept(2, true)", x.kept(2, true), 12);
    }

    static void keptOfAFrozenBundle() {
        VoyageKeeper x = new VoyageKeeper();
        x.freeze(0, 0);
        Ship.closeSeconds(x, 60);
        Check.due("kept(0, false)", x.kept(0, false), 0);
        Check.due("kept(0, true)", x.kept(0, true), 59);
    }

    static void keptOfAFailedStore() {
        VoyageKeeper x = Ship.at(1);
        x.fail(1, true);
        x.second(2);
        Check.due("kept(1, true)", x.kept(1, true), 0);
        Check.due("kept(0, true)", x.kept(0, true), 1);
    }

    static void keptOfTheLastSecondThatCanBeClosed() {
        VoyageKeeper x = Ship.at(9998);
        x.second(9999);
        Check.due("kept(0, true)", x.kept(0, true), 9998);
    }

    // "readable or not"

    static void keptOfUnreadableBundles() {
        VoyageKeeper x = Ship.afterSeconds(3);
        x.spoil(0, 0);
        x.spoil(0, 2);
        Check.due("kept(0, false)", x.kept(0, false), 0);
        Check.due("kept(0, true)", x.kept(0, true), 2);
    }

    // "NONE when there is none, or no such store"

    static void keptOfAnEmptyStore() {
        VoyageKeeper x = new VoyageKeeper();
        x.fail(1, true);
        x.second(1);
        Check.due("kept(1, false)", x.kept(1, false), NONE);
        Check.due("kept(1, true)", x.kept(1, true), NONE);
    }

    static void keptOfNoSuchStore() {
        VoyageKeeper x = Ship.at(1);
        for (int store : NO_STORES) {
            Check.due("kept(" + store + ", false)", x.kept(store, false), NONE);
            Check.due("kept(" + store + ", true)", x.kept(store, true), NONE);
        }
    }

    static void keptWithPowerOff() {
        VoyageKeeper x = Ship.at(1);
        x.cutAfter(0);
        x.second(2);
        Check.due("kept(0, false)", x.kept(0, false), 0);
        Check.due("kept(0, true)", x.kept(0, true), 0);
    }

    // Promise 13: "How many pages a store has that are free"

    static void freeGoesDownWithEachPage() {
        VoyageKeeper x = Ship.at(1);
        for (int store = 0; store < 3; store++) {
            Check.due("free(" + store + ")", x.free(store), PAGES[store] - 1);
        }
        Ship.fillTwoPages(x);
        x.second(2);
        for (int store = 0; store < 3; store++) {
            Check.due("free(" + store + ")", x.free(store), PAGES[store] - 3);
        }
    }

    static void freeOfAFullStore() {
        for (int store = 0; store < 3; store++) {
            Check.due("free(" + store + ")", Ship.afterSeconds(PAGES[store]).free(store), 0);
        }
    }

    static void freeOfSpoiledPages() {
        VoyageKeeper x = Ship.at(1);
        x.spoil(0, 0);
        x.spoil(0, 1);
        Check.due("free(0)", x.free(0), 39);
    }

    static void freeOfAFailedStore() {
        VoyageKeeper x = Ship.at(1);
        x.fail(0, true);
        x.second(2);
        Check.due("free(0)", x.free(0), 39);
    }

    static void freeOfNoSuchStore() {
        VoyageKeeper x = new VoyageKeeper();
        for (int store : NO_STORES) {
            Check.due("free(" + store + ")", x.free(store), NONE);
        }
    }

    static void freeWithPowerOff() {
        Check.due("free(0)", Ship.withoutPower().free(0), 40);
    }

    // Promise 14: "Whether a store has a readable bundle of second t."

    static void hasOfEachStore() {
        VoyageKeeper x = Ship.at(5);
        for (int store = 0; store < 3; store++) {
            Check.yes("has(" + store + ", 0)", x.has(store, 0));
        }
    }

    static void hasOfTheSecondUnderWay() {
        Check.no("has(0, 5)", Ship.at(5).has(0, 5));
    }

    static void hasOfASecondThatWasLeftOut() {
        Check.no("has(0, 3)", Ship.at(5).has(0, 3));
    }

    static void hasOfSecondsFarOff() {
        VoyageKeeper x = Ship.at(5);
        Check.no("has(0, -1)", x.has(0, -1));
        Check.no("has(0, MIN)", x.has(0, Integer.MIN_VALUE));
        Check.no("has(0, 10000)", x.has(0, 10000));
        Check.no("has(0, MAX)", x.has(0, Integer.MAX_VALUE));
    }

    static void hasOfNoSecondInAnEmptyStore() {
        VoyageKeeper x = new VoyageKeeper();
        Check.no("has(0, -1)", x.has(0, -1));
        Check.no("has(0, 0)", x.has(0, 0));
    }

    static void hasOfABundleTakenOut() {
        VoyageKeeper x = Ship.afterSeconds(11);
        Check.no("has(2, 0)", x.has(2, 0));
        Check.yes("has(1, 0)", x.has(1, 0));
    }

    static void hasOfAnUnreadableBundle() {
        VoyageKeeper x = Ship.at(5);
        x.spoil(1, 0);
        Check.no("has(1, 0)", x.has(1, 0));
        Check.yes("has(0, 0)", x.has(0, 0));
    }

    static void hasOfNoSuchStore() {
        VoyageKeeper x = Ship.at(5);
        for (int store : NO_STORES) {
            Check.no("has(" + store + ", 0)", x.has(store, 0));
        }
    }

    static void hasWithPowerOff() {
        VoyageKeeper x = Ship.at(1);
        x.cutAfter(0);
        x.second(2);
        Check.yes("has(0, 0)", x.has(0, 0));
        Check.no("has(0, 1)", x.has(0, 1));
    }

    // Promise 22: "A store fails, or works again. Answers whether that is a change"

    static void eachStoreFailsAndWorksAgain() {
        for (int store = 0; store < 3; store++) {
            VoyageKeeper x = new VoyageKeeper();
            Check.yes("fail(" + store + ", true)", x.fail(store, true));
            Check.due("second(1)", x.second(1), 2);
            Check.yes("fail(" + store + ", false)", x.fail(store, false));
            Check.due("second(2)", x.second(2), 3);
            Check.no("has(" + store + ", 0)", x.has(store, 0));
            Check.yes("has(" + store + ", 1)", x.has(store, 1));
        }
    }

    static void failOfAStoreThatHasFailed() {
        VoyageKeeper x = new VoyageKeeper();
        x.fail(1, true);
        Check.no("fail(1, true)", x.fail(1, true));
        Check.due("second(1)", x.second(1), 2);
    }

    static void worksOfAStoreThatWorks() {
        VoyageKeeper x = new VoyageKeeper();
        Check.no("fail(1, false)", x.fail(1, false));
        Check.due("second(1)", x.second(1), 3);
    }

    static void worksOfAStoreThatWorksAgain() {
        VoyageKeeper x = new VoyageKeeper();
        x.fail(2, true);
        x.fail(2, false);
        Check.no("fail(2, false)", x.fail(2, false));
    }

    static void failedStoreCanStillBeRead() {
        VoyageKeeper x = new VoyageKeeper();
        x.sentence(2, 65);
        x.second(1);
        x.fail(0, true);
        Check.yes("has(0, 0)", x.has(0, 0));
        Check.due("find(0, 2, 0)", x.find(0, 2, 0), 0);
        Check.due("replay(0, 0)", x.replay(0, 0), 1);
    }

    // "false, too, when there is no such store"

    static void failOfNoSuchStore() {
        VoyageKeeper x = new VoyageKeeper();
        for (int store : NO_STORES) {
            Check.no("fail(" + store + ", true)", x.fail(store, true));
            Check.no("fail(" + store + ", false)", x.fail(store, false));
        }
        Check.due("second(1)", x.second(1), 3);
    }

    static void failWithPowerOff() {
        VoyageKeeper x = Ship.withoutPower();
        Check.yes("fail(2, true)", x.fail(2, true));
        Check.no("fail(2, true) again", x.fail(2, true));
        x.start();
        Check.due("second(2)", x.second(2), 2);
    }

    // Promise 25: "A page of a store is not readable until it is written again."

    static void spoiledPageIsNotReadable() {
        VoyageKeeper x = Ship.at(1);
        Check.yes("spoil(0, 0)", x.spoil(0, 0));
        Check.no("has(0, 0)", x.has(0, 0));
    }

    static void spoiledPageOfOneStoreIsNotThatOfAnother() {
        VoyageKeeper x = Ship.at(1);
        x.spoil(1, 0);
        Check.yes("has(0, 0)", x.has(0, 0));
        Check.yes("spoil(0, 0)", x.spoil(0, 0));
        Check.yes("spoil(2, 0)", x.spoil(2, 0));
    }

    static void spoiledPageIsWrittenAgain() {
        VoyageKeeper x = Ship.afterSeconds(10);
        x.spoil(2, 0);
        x.second(11);
        Check.yes("has(2, 10)", x.has(2, 10));
        Check.yes("spoil(2, 0)", x.spoil(2, 0));
        Check.no("has(2, 10)", x.has(2, 10));
    }

    static void spoiledPageOfABundleTakenOutIsStillNotReadable() {
        VoyageKeeper x = new VoyageKeeper();
        Ship.fillTwoPages(x);
        x.second(1);
        x.spoil(2, 1);
        Ship.closeSeconds(x, 9);
        Check.due("free(2)", x.free(2), 1);
        Check.no("spoil(2, 1)", x.spoil(2, 1));
        x.second(11);
        Check.yes("has(2, 10)", x.has(2, 10));
        Check.yes("spoil(2, 1) when written", x.spoil(2, 1));
    }

    // "false when there is no such store or page"

    static void spoilOfNoSuchStore() {
        VoyageKeeper x = Ship.at(1);
        for (int store : NO_STORES) {
            Check.no("spoil(" + store + ", 0)", x.spoil(store, 0));
        }
    }

    static void spoilOfPageMinus1() {
        VoyageKeeper x = Ship.at(1);
        for (int store = 0; store < 3; store++) {
            Check.no("spoil(" + store + ", -1)", x.spoil(store, -1));
        }
    }

    static void spoilOfTheFirstPage() {
        VoyageKeeper x = new VoyageKeeper();
        for (int store = 0; store < 3; store++) {
            Check.yes("spoil(" + store + ", 0)", x.spoil(store, 0));
        }
    }

    static void spoilOfTheLastPage() {
        VoyageKeeper x = new VoyageKeeper();
        for (int store = 0; store < 3; store++) {
            Check.yes("the last of store " + store, x.spoil(store, PAGES[store] - 1));
        }
    }

    static void spoilOfThePageBehindTheLast() {
        VoyageKeeper x = new VoyageKeeper();
        for (int store = 0; store < 3; store++) {
            Check.no("behind the last of store " + store, x.spoil(store, PAGES[store]));
        }
    }

    static void spoilOfPagesFarOff() {
        VoyageKeeper x = new VoyageKeeper();
        for (int far : Ship.FAR_OFF) {
            Check.no("spoil(0, " + far + ")", x.spoil(0, far));
        }
    }

    // "or it was not"

    static void spoilAgain() {
        VoyageKeeper x = Ship.at(1);
        x.spoil(0, 0);
        Check.no("spoil(0, 0)", x.spoil(0, 0));
    }

    static void spoilOfAFreePageAgain() {
        VoyageKeeper x = new VoyageKeeper();
        Check.yes("spoil(0, 20)", x.spoil(0, 20));
        Check.no("spoil(0, 20) again", x.spoil(0, 20));
    }

    static void spoilOfAFailedStore() {
        VoyageKeeper x = Ship.at(1);
        x.fail(0, true);
        Check.yes("spoil(0, 0)", x.spoil(0, 0));
        Check.due("unreadable(0)", x.unreadable(0), 1);
    }

    static void spoilWithPowerOff() {
        VoyageKeeper x = Ship.at(1);
        x.cutAfter(0);
        x.second(2);
        Check.yes("spoil(0, 0)", x.spoil(0, 0));
        Check.no("spoil(0, 0) again", x.spoil(0, 0));
        Check.no("has(0, 0)", x.has(0, 0));
    }

    // Promise 26: "How many bundles of a store are not readable"

    static void unreadableWithNothingSpoiled() {
        VoyageKeeper x = Ship.afterSeconds(3);
        for (int store = 0; store < 3; store++) {
            Check.due("unreadable(" + store + ")", x.unreadable(store), 0);
        }
    }

    static void unreadableByEachPageOfABundle() {
        for (int page = 0; page < 5; page++) {
            VoyageKeeper x = new VoyageKeeper();
            Ship.fillFivePages(x);
            x.second(1);
            x.spoil(0, page);
            Check.due("unreadable(0) by page " + page, x.unreadable(0), 1);
        }
    }

    static void unreadableByTwoPagesCountsOnce() {
        VoyageKeeper x = new VoyageKeeper();
        Ship.fillFivePages(x);
        x.second(1);
        x.spoil(0, 1);
        x.spoil(0, 4);
        Check.due("unreadable(0)", x.unreadable(0), 1);
    }

    static void unreadableByAllPagesCountsOnce() {
        VoyageKeeper x = new VoyageKeeper();
        Ship.fillFivePages(x);
        x.second(1);
        for (int page = 0; page < 5; page++) {
            x.spoil(0, page);
            Check.due("unreadable(0)", x.unreadable(0), 1);
        }
    }

    static void unreadableCountsEachBundle() {
        VoyageKeeper x = Ship.afterSeconds(40);
        for (int page = 0; page < 40; page++) {
            x.spoil(0, page);
            Check.due("unreadable(0)", x.unreadable(0), page + 1);
        }
        Check.due("unreadable(1)", x.unreadable(1), 0);
    }

    static void unreadableOfFreePages() {
        VoyageKeeper x = Ship.at(1);
        x.spoil(0, 1);
        x.spoil(0, 39);
        Check.due("unreadable(0)", x.unreadable(0), 0);
    }

    static void unreadableOfABundleTakenOut() {
        VoyageKeeper x = Ship.afterSeconds(10);
        x.spoil(2, 0);
        Check.due("unreadable(2)", x.unreadable(2), 1);
        x.second(11);
        Check.due("unreadable(2) later", x.unreadable(2), 0);
    }

    static void unreadableOfNoSuchStore() {
        VoyageKeeper x = new VoyageKeeper();
        for (int store : NO_STORES) {
            Check.due("unreadable(" + store + ")", x.unreadable(store), NONE);
        }
    }

    static void unreadableWithPowerOff() {
        VoyageKeeper x = Ship.at(1);
        x.spoil(0, 0);
        x.cutAfter(0);
        x.second(2);
        Check.due("unreadable(0)", x.unreadable(0), 1);
    }
}
