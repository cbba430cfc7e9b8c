/** Promises 23 and 24, and what a cut of power takes away. */
public final class PowerTest {
    private static final int NONE = VoyageKeeper.NONE;

    public static void main(String[] args) {
        Check.runCases(PowerTest.class);
    }

    // Promise 23: "when n more (0 .. 100) were written, from now on, in all stores"

    static void cutAfterMinus1() {
        VoyageKeeper x = new VoyageKeeper();
        Check.no("cutAfter(-1)", x.cutAfter(-1));
        Check.due("second(1)", x.second(1), 3);
    }

    static void cutAfter0() {
        VoyageKeeper x = new VoyageKeeper();
        Check.yes("cutAfter(0)", x.cutAfter(0));
        Check.due("second(1)", x.second(1), NONE);
        Check.due("kept(0, true)", x.kept(0, true), NONE);
    }

    static void cutAfter1() {
        VoyageKeeper x = new VoyageKeeper();
        Check.yes("cutAfter(1)", x.cutAfter(1));
        Check.due("second(1)", x.second(1), NONE);
        Check.yes("has(0, 0)", x.has(0, 0));
        Check.no("has(1, 0)", x.has(1, 0));
    }

    static void cutAfter99() {
        VoyageKeeper x = new VoyageKeeper();
        Check.yes("cutAfter(99)", x.cutAfter(99));
        Ship.closeSeconds(x, 33);
        Check.due("second(34)", x.second(34), NONE);
        Check.no("has(0, 33)", x.has(0, 33));
    }

    static void cutAfter100() {
        VoyageKeeper x = new VoyageKeeper();
        Check.yes("cutAfter(100)", x.cutAfter(100));
        for (int t = 1; t <= 33; t++) {
            Check.due("second(" + t + ")", x.second(t), 3);
        }
        Check.due("second(34)", x.second(34), NONE);
        Check.yes("page 100", x.has(0, 33));
        Check.no("page 101", x.has(1, 33));
        Check.no("the page behind", x.has(2, 33));
    }

    static void cutAfter101() {
        VoyageKeeper x = new VoyageKeeper();
        Check.no("cutAfter(101)", x.cutAfter(101));
        for (int t = 1; t <= 40; t++) {
            Check.due("second(" + t + ")", x.second(t), 3);
        }
    }

    static void cutAfterFarOff() {
        VoyageKeeper x = new VoyageKeeper();
        for (int far : Ship.FAR_OFF) {
            Check.no("cutAfter(" + far + ")", x.cutAfter(far));
        }
        Check.due("second(1)", x.second(1), 3);
    }

    static void pagesWrittenBeforeDoNotCount() {
        VoyageKeeper x = Ship.afterSeconds(5);
        x.cutAfter(2);
        Check.due("second(6)", x.second(6), NONE);
        Check.yes("has(1, 5)", x.has(1, 5));
        Check.no("has(2, 5)", x.has(2, 5));
    }

    static void pagesOfSeveralSecondsCount() {
        VoyageKeeper x = new VoyageKeeper();
        x.cutAfter(7);
        Check.due("second(1)", x.second(1), 3);
        Check.due("second(2)", x.second(2), 3);
        Check.due("second(3)", x.second(3), NONE);
        Check.yes("has(0, 2)", x.has(0, 2));
        Check.no("has(1, 2)", x.has(1, 2));
    }

    static void eachPageOfABundleCounts() {
        VoyageKeeper x = new VoyageKeeper();
        x.cutAfter(6);
        Ship.fillTwoPages(x);
        Check.due("second(1)", x.second(1), 3);
        Check.due("second(2)", x.second(2), NONE);
    }

    static void failedStoresWriteNoPages() {
        VoyageKeeper x = new VoyageKeeper();
        x.fail(0, true);
        x.cutAfter(2);
        Check.due("second(1)", x.second(1), 2);
        Check.due("second(2)", x.second(2), NONE);
        Check.no("has(1, 1)", x.has(1, 1));
    }

    static void laterPlanTakesThePlaceOfASoonerCut() {
        VoyageKeeper x = new VoyageKeeper();
        x.cutAfter(1);
        Check.yes("cutAfter(3)", x.cutAfter(3));
        Check.due("second(1)", x.second(1), 3);
        Check.due("second(2)", x.second(2), NONE);
    }

    static void laterPlanTakesThePlaceOfALaterCut() {
        VoyageKeeper x = new VoyageKeeper();
        x.cutAfter(5);
        Check.yes("cutAfter(0)", x.cutAfter(0));
        Check.due("second(1)", x.second(1), NONE);
        x.start();
        for (int t = 2; t <= 10; t++) {
            Check.due("second(" + t + ")", x.second(t), 3);
        }
    }

    static void cutComesOnce() {
        VoyageKeeper x = Ship.withoutPower();
        x.start();
        for (int t = 2; t <= 10; t++) {
            Check.due("second(" + t + ")", x.second(t), 3);
        }
    }

    // "false when n is not so, or power is off"

    static void refusedPlanLeavesTheOneBefore() {
        VoyageKeeper x = new VoyageKeeper();
        x.cutAfter(3);
        Check.no("cutAfter(101)", x.cutAfter(101));
        Check.no("cutAfter(-1)", x.cutAfter(-1));
        Check.due("second(1)", x.second(1), 3);
        Check.due("second(2)", x.second(2), NONE);
    }

    static void cutAfterWithPowerOff() {
        VoyageKeeper x = Ship.withoutPower();
        Check.no("cutAfter(0)", x.cutAfter(0));
        Check.no("cutAfter(100)", x.cutAfter(100));
        x.start();
        Check.due("second(2)", x.second(2), 3);
    }

    static void wrongCutAfterWithPowerOff() {
        VoyageKeeper x = Ship.withoutPower();
        Check.no("cutAfter(-1)", x.cutAfter(-1));
        Check.no("cutAfter(101)", x.cutAfter(101));
    }

    // Promise 24: "Power comes again. Answers true; false when it is on."

    static void startWithPowerOff() {
        VoyageKeeper x = Ship.withoutPower();
        Check.yes("start()", x.start());
        Check.due("sentence(0, 65)", x.sentence(0, 65), 1);
    }

    static void startAgain() {
        VoyageKeeper x = Ship.withoutPower();
        x.start();
        Check.no("start()", x.start());
    }

    static void startWithACutPlanned() {
        VoyageKeeper x = new VoyageKeeper();
        x.cutAfter(0);
        Check.no("start()", x.start());
        Check.due("second(1)", x.second(1), NONE);
    }

    static void startAfterASecondCut() {
        VoyageKeeper x = Ship.withoutPower();
        x.start();
        x.cutAfter(0);
        x.second(2);
        Check.yes("start()", x.start());
        Check.due("now()", x.now(), 2);
    }

    // "that page and what would be written behind it, also in further stores, are not written"

    /** Power is cut after so many of the 15 pages that second 0 takes in all. */
    private static VoyageKeeper cutInGreatBundle(int pages) {
        VoyageKeeper x = new VoyageKeeper();
        Ship.fillFivePages(x);
        x.cutAfter(pages);
        x.second(1);
        return x;
    }

    static void cutInEachPageOfABundle() {
        int[] all = {40, 20, 10};
        for (int pages = 0; pages < 15; pages++) {
            VoyageKeeper x = cutInGreatBundle(pages);
            Check.yes("start() after " + pages + " pages", x.start());
            for (int store = 0; store < 3; store++) {
                boolean whole = pages >= 5 * (store + 1);
                String told = "store " + store + " after " + pages + " pages";
                Check.due("has, " + told, x.has(store, 0) ? 1 : 0, whole ? 1 : 0);
                Check.due("free, " + told, x.free(store), all[store] - (whole ? 5 : 0));
            }
        }
    }

    static void cutBehindTheLastPageOfABundle() {
        VoyageKeeper x = cutInGreatBundle(15);
        Check.no("start()", x.start());
        Check.yes("has(2, 0)", x.has(2, 0));
        Check.due("second(2)", x.second(2), NONE);
    }

    static void pageOfTheCutIsNotWritten() {
        VoyageKeeper x = new VoyageKeeper();
        x.spoil(0, 0);
        x.spoil(0, 1);
        x.spoil(0, 2);
        Ship.fillThreePages(x);
        x.cutAfter(1);
        x.second(1);
        Check.yes("page 0 was written", x.spoil(0, 0));
        Check.no("page 1 was not", x.spoil(0, 1));
        Check.no("page 2 was not", x.spoil(0, 2));
    }

    static void furtherStoresAreLeftAsTheyAre() {
        VoyageKeeper x = Ship.afterSeconds(40);
        x.cutAfter(0);
        x.second(41);
        Check.due("kept(1, false)", x.kept(1, false), 20);
        Check.due("free(1)", x.free(1), 0);
        Check.due("kept(2, false)", x.kept(2, false), 30);
        Check.due("free(2)", x.free(2), 0);
    }

    /** The document takes bundles out before it writes, so that they are gone at a cut. */
    static void bundlesTakenOutForTheBundleAreGone() {
        VoyageKeeper x = Ship.afterSeconds(40);
        Ship.fillTwoPages(x);
        x.cutAfter(1);
        x.second(41);
        Check.due("kept(0, false)", x.kept(0, false), 2);
        Check.due("kept(0, true)", x.kept(0, true), 39);
        Check.due("free(0)", x.free(0), 2);
    }

    static void bundlesTakenOutAreGoneWhenTheFirstPageIsCut() {
        VoyageKeeper x = Ship.afterSeconds(40);
        Ship.fillTwoPages(x);
        x.cutAfter(0);
        x.second(41);
        Check.due("kept(0, false)", x.kept(0, false), 2);
        Check.due("kept(0, true)", x.kept(0, true), 39);
        Check.due("free(0)", x.free(0), 2);
    }

    // "pages of the bundle that is not whole are free"

    static void bundleThatIsNotWholeIsNotKept() {
        VoyageKeeper x = cutInGreatBundle(8);
        Check.due("kept(1, false)", x.kept(1, false), NONE);
        Check.due("kept(1, true)", x.kept(1, true), NONE);
        Check.due("unreadable(1)", x.unreadable(1), 0);
        Check.due("find(1, 0, 0)", x.find(1, 0, 0), NONE);
        Check.due("replay(1, 0)", x.replay(1, 0), NONE);
    }

    static void bundleThatIsWholeInAnotherStoreIsKept() {
        VoyageKeeper x = cutInGreatBundle(8);
        Check.due("replay(0, 0)", x.replay(0, 0), 4);
        Check.due("outSound(1, 0)", x.outSound(1, 0), 1);
        Check.due("outRow(7)", x.outRow(7), Ship.STRIPES);
    }

    static void freedPagesAreWrittenNext() {
        VoyageKeeper x = cutInGreatBundle(4);
        x.start();
        x.second(2);
        x.spoil(0, 0);
        Check.no("has(0, 1)", x.has(0, 1));
        Check.due("free(0)", x.free(0), 39);
    }

    // "all that came in in the second under way, the former picture and the canvas are gone, contacts are off"

    /** Second 1 with all kinds of things was cut; power is on again and second 2 under way. */
    private static VoyageKeeper afterACut() {
        VoyageKeeper x = Ship.at(1);
        Ship.fillFivePages(x);
        x.contact(0, true);
        x.contact(15, true);
        x.cutAfter(0);
        x.second(2);
        x.start();
        return x;
    }

    private static VoyageKeeper loadedAfterACut() {
        VoyageKeeper x = afterACut();
        x.second(3);
        x.replay(0, 2);
        return x;
    }

    static void sentencesAreGone() {
        Check.due("sentence(0, 65)", afterACut().sentence(0, 65), 1);
        Check.due("outSentence(0)", loadedAfterACut().outSentence(0), 0);
        Check.due("outSource(0)", loadedAfterACut().outSource(0), NONE);
    }

    static void soundsAreGone() {
        Check.due("outSound(0, 0)", loadedAfterACut().outSound(0, 0), 0);
        Check.due("outSound(1, 0)", loadedAfterACut().outSound(1, 0), 0);
    }

    static void pictureIsGone() {
        Check.yes("show()", afterACut().show());
        Check.due("outRow(0)", loadedAfterACut().outRow(0), 0);
    }

    static void nothingOfTheCutSecondTakesBytes() {
        VoyageKeeper x = afterACut();
        Ship.say(x, 8);
        Check.due("pages", Ship.pagesOfClosing(x, 0), 1);
    }

    static void canvasIsGone() {
        VoyageKeeper x = afterACut();
        x.show();
        x.second(3);
        x.replay(0, 2);
        for (int row = 0; row < 8; row++) {
            Check.due("outRow(" + row + ")", x.outRow(row), 0);
        }
    }

    static void canvasThatWasNotShownIsGone() {
        VoyageKeeper x = new VoyageKeeper();
        Ship.paintRuns(x, 64);
        x.cutAfter(0);
        x.second(1);
        x.start();
        x.show();
        x.second(2);
        x.replay(0, 1);
        Check.due("outRow(0)", x.outRow(0), 0);
    }

    static void formerPictureIsGone() {
        VoyageKeeper x = new VoyageKeeper();
        Ship.showRuns(x, 64);
        x.second(1);
        x.cutAfter(0);
        x.second(2);
        x.start();
        Ship.showRuns(x, 64);
        x.second(3);
        x.spoil(0, 0);
        x.replay(0, 2);
        Check.due("outRow(0)", x.outRow(0), Ship.STRIPES);
    }

    static void contactsAreOff() {
        Check.due("outContacts()", loadedAfterACut().outContacts(), 0);
    }

    static void contactsThatWereOnBeforeTheCutSecondAreOff() {
        VoyageKeeper x = new VoyageKeeper();
        x.contact(9, true);
        x.second(1);
        x.cutAfter(0);
        x.second(2);
        x.start();
        x.second(3);
        x.replay(0, 2);
        Check.due("outContacts()", x.outContacts(), 0);
    }

    static void secondOfTheCutHasNoBundle() {
        VoyageKeeper x = loadedAfterACut();
        for (int store = 0; store < 3; store++) {
            Check.no("has(" + store + ", 1)", x.has(store, 1));
        }
    }

    // "Stores and freezes stay."

    static void storesStay() {
        VoyageKeeper x = new VoyageKeeper();
        Ship.say(x, 3, 4);
        x.contact(2, true);
        x.second(1);
        x.cutAfter(0);
        x.second(2);
        for (int store = 0; store < 3; store++) {
            Check.due("replay(" + store + ", 0)", x.replay(store, 0), 2);
            Check.due("outContacts()", x.outContacts(), 4);
        }
    }

    static void failedStoresStayFailed() {
        VoyageKeeper x = new VoyageKeeper();
        x.fail(2, true);
        x.cutAfter(0);
        x.second(1);
        x.start();
        Check.due("second(2)", x.second(2), 2);
        Check.no("fail(2, true)", x.fail(2, true));
    }

    static void spoiledPagesStaySpoiled() {
        VoyageKeeper x = Ship.afterSeconds(2);
        x.spoil(0, 0);
        x.spoil(0, 30);
        x.cutAfter(0);
        x.second(3);
        x.start();
        Check.due("unreadable(0)", x.unreadable(0), 1);
        Check.no("spoil(0, 30)", x.spoil(0, 30));
    }

    static void freezesStay() {
        VoyageKeeper x = Ship.at(1);
        x.freeze(1, 1);
        x.cutAfter(0);
        x.second(2);
        x.start();
        Check.due("frozen(0, false)", x.frozen(0, false), 0);
        Check.due("frozen(0, true)", x.frozen(0, true), 2);
        Ship.closeSeconds(x, 50);
        Check.yes("has(0, 0)", x.has(0, 0));
        Check.no("has(0, 1)", x.has(0, 1));
        Check.yes("has(0, 2)", x.has(0, 2));
        Check.no("has(0, 3)", x.has(0, 3));
    }

    static void freezeCountsNothingForASecondThatWasCut() {
        VoyageKeeper x = new VoyageKeeper();
        x.cutAfter(0);
        x.second(1);
        x.start();
        Check.due("freeze(1, 3)", x.freeze(1, 3), 0);
    }
}
