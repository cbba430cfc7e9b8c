/** The document's terms: what a bundle takes, how pictures are coded, how stores take bundles. */
public final class TermsTest {
    private static final int NONE = VoyageKeeper.NONE;
    private static final int STRIPES = Ship.STRIPES;
    /** A row of another picture that is raw, by itself and against the stripes. */
    private static final int STEPS = 0x1b1b;

    public static void main(String[] args) {
        Check.runCases(TermsTest.class);
    }

    private static void takesPages(VoyageKeeper x, int due) {
        Check.due("pages", Ship.pagesOfClosing(x, 0), due);
    }

    // "In BYTES it takes: 6; for each sentence 2 and its signs"; "PAGES of 16 bytes, as few as hold it"

    static void emptySecondTakes1Page() {
        takesPages(new VoyageKeeper(), 1);
    }

    private static void pagesOfSentences(int due, int... signs) {
        VoyageKeeper x = new VoyageKeeper();
        Ship.say(x, signs);
        takesPages(x, due);
    }

    static void bytes16Take1Page() {
        pagesOfSentences(1, 8);
    }

    static void bytes17Take2Pages() {
        pagesOfSentences(2, 1, 6);
    }

    static void bytes32Take2Pages() {
        pagesOfSentences(2, 8, 8, 4);
    }

    static void bytes33Take3Pages() {
        pagesOfSentences(3, 8, 8, 5);
    }

    static void eachLengthOfASentence() {
        for (int signs = 1; signs <= 5; signs++) {
            pagesOfSentences(1, signs, 6 - signs);
            pagesOfSentences(2, signs, 7 - signs);
        }
        for (int signs = 6; signs <= 8; signs++) {
            pagesOfSentences(2, signs, 8, 12 - signs);
            pagesOfSentences(3, signs, 8, 13 - signs);
        }
    }

    static void fourSentencesCount() {
        pagesOfSentences(2, 8, 8, 1, 1);
        pagesOfSentences(3, 8, 8, 1, 2);
        pagesOfSentences(3, 8, 8, 8, 8);
    }

    static void bytes48Take3Pages() {
        VoyageKeeper x = new VoyageKeeper();
        Ship.say(x, 8, 8, 8, 8);
        Ship.showRuns(x, 1);
        takesPages(x, 3);
    }

    static void bytes49Take4Pages() {
        VoyageKeeper x = new VoyageKeeper();
        Ship.say(x, 8, 8, 8, 8);
        Ship.showRuns(x, 2);
        takesPages(x, 4);
    }

    static void bytes64Take4Pages() {
        VoyageKeeper x = new VoyageKeeper();
        Ship.say(x, 8, 8, 8, 8);
        x.sound(0, 0, 1);
        Ship.showRuns(x, 12);
        takesPages(x, 4);
    }

    static void bytes65Take5Pages() {
        VoyageKeeper x = new VoyageKeeper();
        Ship.say(x, 8, 8, 8, 8);
        x.sound(0, 0, 1);
        Ship.showRuns(x, 13);
        takesPages(x, 5);
    }

    static void mostThatCanComeInTakes5Pages() {
        VoyageKeeper x = new VoyageKeeper();
        Ship.fillFivePages(x);
        for (int k = 1; k < 4; k++) {
            x.sound(0, k, 255);
            x.sound(1, k, 255);
        }
        x.second(1);
        Check.due("free(0)", x.free(0), 35);
        Check.due("free(1)", x.free(1), 15);
        Check.due("free(2)", x.free(2), 5);
    }

    static void contactsTakeNoMore() {
        VoyageKeeper x = new VoyageKeeper();
        Ship.say(x, 8);
        for (int i = 0; i < 16; i++) {
            x.contact(i, true);
        }
        takesPages(x, 1);
    }

    // "for each such channel 5": those "of which a byte came"

    static void channelTakes5Bytes() {
        for (int channel = 0; channel < 2; channel++) {
            VoyageKeeper x = new VoyageKeeper();
            x.sound(channel, 2, 9);
            Ship.say(x, 3);
            takesPages(x, 1);
            x.sound(channel, 2, 9);
            Ship.say(x, 4);
            takesPages(x, 2);
        }
    }

    static void bothChannelsTake10Bytes() {
        VoyageKeeper x = new VoyageKeeper();
        x.sound(0, 0, 1);
        x.sound(1, 0, 1);
        takesPages(x, 1);
        x.sound(0, 0, 1);
        x.sound(1, 0, 1);
        Ship.say(x, 8, 4);
        takesPages(x, 2);
        x.sound(0, 0, 1);
        x.sound(1, 0, 1);
        Ship.say(x, 8, 5);
        takesPages(x, 3);
    }

    static void byteOf0IsAByteThatCame() {
        VoyageKeeper x = new VoyageKeeper();
        x.sound(0, 0, 0);
        Ship.say(x, 4);
        takesPages(x, 2);
    }

    static void fourBytesOfAChannelTakeNoMoreThanOne() {
        VoyageKeeper x = new VoyageKeeper();
        for (int k = 0; k < 4; k++) {
            x.sound(1, k, 255);
        }
        Ship.say(x, 3);
        takesPages(x, 1);
    }

    static void soundOfTheSecondBeforeTakesNothing() {
        VoyageKeeper x = new VoyageKeeper();
        x.sound(0, 0, 1);
        x.second(1);
        Ship.say(x, 8);
        takesPages(x, 1);
    }

    // "The sounds of channel 1 do not come into store 2."

    static void channel1TakesNothingInStore2() {
        VoyageKeeper x = new VoyageKeeper();
        x.sound(1, 0, 1);
        Ship.say(x, 8);
        x.second(1);
        Check.due("free(0)", x.free(0), 38);
        Check.due("free(1)", x.free(1), 18);
        Check.due("free(2)", x.free(2), 9);
    }

    static void channel0Takes5BytesInStore2() {
        VoyageKeeper x = new VoyageKeeper();
        x.sound(0, 0, 1);
        x.sound(1, 0, 1);
        Ship.say(x, 3);
        x.second(1);
        Check.due("free(2)", x.free(2), 9);
        x.sound(0, 0, 1);
        x.sound(1, 0, 1);
        Ship.say(x, 4);
        x.second(2);
        Check.due("free(2)", x.free(2), 7);
    }

    // "for a picture 1 and as many as its CODING takes"; "RUNS (1): one for each longest row of equal cells"

    private static void pagesOfPicture(int due, int runs, int... signs) {
        VoyageKeeper x = new VoyageKeeper();
        Ship.showRuns(x, runs);
        Ship.say(x, signs);
        takesPages(x, due);
    }

    static void pictureOf1RunTakes2Bytes() {
        pagesOfPicture(1, 1, 6);
        pagesOfPicture(2, 1, 7);
    }

    static void pictureOf9RunsTakes10Bytes() {
        pagesOfPicture(1, 9);
    }

    static void pictureOf10RunsTakes11Bytes() {
        pagesOfPicture(2, 10);
    }

    static void pictureOf15RunsTakes16Bytes() {
        pagesOfPicture(2, 15, 8);
    }

    static void pictureOf16RunsTakes17Bytes() {
        pagesOfPicture(2, 16, 7);
        pagesOfPicture(3, 16, 8);
    }

    static void pictureOf17RunsIsRaw() {
        pagesOfPicture(2, 17, 7);
        pagesOfPicture(3, 17, 8);
    }

    static void pictureOf64RunsIsRaw() {
        pagesOfPicture(2, 64, 7);
        pagesOfPicture(3, 64, 8);
    }

    static void blankPictureTakes2Bytes() {
        VoyageKeeper x = new VoyageKeeper();
        x.show();
        Ship.say(x, 6);
        takesPages(x, 1);
        VoyageKeeper y = new VoyageKeeper();
        y.show();
        Ship.say(y, 7);
        takesPages(y, 2);
    }

    // "going over all 64 cells row by row"

    private static VoyageKeeper withRowsByTurns(int even, int odd) {
        VoyageKeeper x = new VoyageKeeper();
        for (int row = 0; row < 8; row++) {
            x.paint(row, row % 2 == 0 ? even : odd);
        }
        x.show();
        return x;
    }

    static void runEndsWithARowWhenTheNextIsOther() {
        VoyageKeeper x = withRowsByTurns(0x5555, 0xffff);
        Ship.say(x, 8, 5);
        takesPages(x, 2);
        VoyageKeeper y = withRowsByTurns(0x5555, 0xffff);
        Ship.say(y, 8, 6);
        takesPages(y, 3);
    }

    /** Rows 1 1 1 1 2 2 2 2 and 2 2 2 2 1 1 1 1 by turns: 9 runs, where counting by rows gives 16. */
    static void runGoesOnOverTheEndOfARow() {
        takesPages(withRowsByTurns(0xaa55, 0x55aa), 1);
    }

    static void firstCellAloneIsARun() {
        cellAloneIsARun(0, 0x0001);
    }

    static void lastCellAloneIsARun() {
        cellAloneIsARun(7, 0x4000);
    }

    private static void cellAloneIsARun(int row, int cells) {
        for (int signs = 5; signs <= 6; signs++) {
            VoyageKeeper x = new VoyageKeeper();
            x.paint(row, cells);
            x.show();
            Ship.say(x, signs);
            takesPages(x, signs - 4);
        }
    }

    /** The last cell of row 0 and the first of row 1 make one run; read from the other end they make two. */
    static void firstCellIsInTheLowestBits() {
        VoyageKeeper x = new VoyageKeeper();
        x.paint(0, 0x4000);
        x.paint(1, 0x0001);
        x.show();
        Ship.say(x, 4);
        takesPages(x, 1);
    }

    // "CHANGES (2): the same for the cells that come of xor with the cells of the FORMER picture"

    private static VoyageKeeper afterStripes() {
        VoyageKeeper x = new VoyageKeeper();
        Ship.showRuns(x, 64);
        x.second(1);
        return x;
    }

    static void samePictureTakes2Bytes() {
        VoyageKeeper x = afterStripes();
        x.show();
        Ship.say(x, 6);
        takesPages(x, 1);
        x.show();
        Ship.say(x, 7);
        takesPages(x, 2);
    }

    static void changesOf15Take16Bytes() {
        VoyageKeeper x = afterStripes();
        x.paint(0, STRIPES ^ 0x3333);
        x.paint(1, STRIPES ^ 0x0733);
        x.show();
        Ship.say(x, 8);
        takesPages(x, 2);
    }

    static void changesOf16Take17Bytes() {
        VoyageKeeper x = afterStripes();
        x.paint(0, STRIPES ^ 0x3333);
        x.paint(1, STRIPES ^ 0xf333);
        x.show();
        Ship.say(x, 8);
        takesPages(x, 3);
    }

    static void changesGoOnOverTheEndOfARow() {
        VoyageKeeper x = afterStripes();
        for (int row = 0; row < 8; row++) {
            x.paint(row, STRIPES ^ (row % 2 == 0 ? 0xff00 : 0x00ff));
        }
        x.show();
        takesPages(x, 1);
    }

    static void changesThatAreMoreThanRunsAreNotUsed() {
        VoyageKeeper x = afterStripes();
        Ship.showRuns(x, 9);
        takesPages(x, 1);
    }

    // "It is the one that takes the least; of several the first in this order."

    /** Whether second 1 is coded by itself, so that it is known when second 0, page 0, is not readable. */
    private static boolean isKnownAlone(VoyageKeeper x) {
        x.second(2);
        x.spoil(0, 0);
        x.replay(0, 1);
        return x.outRow(0) != NONE;
    }

    static void rawBefore16Changes() {
        VoyageKeeper x = afterStripes();
        x.paint(0, STRIPES ^ 0x3333);
        x.paint(1, STRIPES ^ 0xf333);
        x.show();
        Check.yes("known alone", isKnownAlone(x));
    }

    static void rawBefore17Changes() {
        VoyageKeeper x = afterStripes();
        x.paint(0, STRIPES ^ 0x3333);
        x.paint(1, STRIPES ^ 0xd333);
        x.show();
        Check.yes("known alone", isKnownAlone(x));
    }

    static void changesOf15BeforeRaw() {
        VoyageKeeper x = afterStripes();
        x.paint(0, STRIPES ^ 0x3333);
        x.paint(1, STRIPES ^ 0x0733);
        x.show();
        Check.no("known alone", isKnownAlone(x));
    }

    static void runsBeforeAsManyChanges() {
        VoyageKeeper x = new VoyageKeeper();
        x.show();
        x.second(1);
        x.paint(7, 0xc000);
        x.show();
        Check.yes("known alone", isKnownAlone(x));
    }

    static void oneRunBeforeOneChange() {
        VoyageKeeper x = new VoyageKeeper();
        Ship.showRuns(x, 1);
        x.second(1);
        x.show();
        Check.yes("known alone", isKnownAlone(x));
    }

    static void oneChangeBeforeTwoRuns() {
        VoyageKeeper x = new VoyageKeeper();
        Ship.showRuns(x, 2);
        x.second(1);
        x.show();
        Check.no("known alone", isKnownAlone(x));
    }

    static void twoRunsBeforeThreeChanges() {
        VoyageKeeper x = new VoyageKeeper();
        x.paint(0, 1);
        x.show();
        x.second(1);
        x.paint(0, 0);
        x.paint(7, 0x4000);
        x.show();
        Check.yes("known alone", isKnownAlone(x));
    }

    // "the latest one of a closed second of the same minute"; "a MINUTE is ten seconds"

    /** The pages of the stripes at a second, when they were shown at an earlier one, too. */
    private static int pagesOfStripes(int earlier, int later) {
        VoyageKeeper x = new VoyageKeeper();
        Ship.paintRuns(x, 64);
        if (earlier > 0) {
            x.second(earlier);
        }
        x.show();
        x.second(later);
        x.show();
        return Ship.pagesOfClosing(x, 0);
    }

    static void formerPictureOfTheSameMinute() {
        Check.due("0 and 9", pagesOfStripes(0, 9), 1);
        Check.due("10 and 19", pagesOfStripes(10, 19), 1);
        Check.due("9990 and 9998", pagesOfStripes(9990, 9998), 1);
    }

    static void formerPictureOfTheMinuteBefore() {
        Check.due("9 and 10", pagesOfStripes(9, 10), 2);
        Check.due("0 and 10", pagesOfStripes(0, 10), 2);
        Check.due("19 and 20", pagesOfStripes(19, 20), 2);
        Check.due("9989 and 9990", pagesOfStripes(9989, 9990), 2);
    }

    static void formerPictureOfTheSameSecondOfAnotherMinute() {
        Check.due("5 and 15", pagesOfStripes(5, 15), 2);
        Check.due("10 and 110", pagesOfStripes(10, 110), 2);
    }

    static void latestPictureIsTheFormerOne() {
        VoyageKeeper x = afterStripes();
        Ship.paintAll(x, STEPS);
        x.show();
        takesPages(x, 2);
        Ship.paintRuns(x, 64);
        x.show();
        takesPages(x, 2);
        x.show();
        takesPages(x, 1);
    }

    static void secondWithoutAPictureBetween() {
        VoyageKeeper x = afterStripes();
        x.second(2);
        x.show();
        takesPages(x, 1);
    }

    static void formerPictureThatNoStoreGot() {
        VoyageKeeper x = new VoyageKeeper();
        Ship.showRuns(x, 64);
        Ship.failAll(x, true);
        x.second(1);
        Ship.failAll(x, false);
        x.show();
        takesPages(x, 1);
    }

    // "only if there is one since the power came"

    static void firstPictureHasNoFormerOne() {
        VoyageKeeper x = new VoyageKeeper();
        Ship.showRuns(x, 64);
        takesPages(x, 2);
    }

    static void pictureFromBeforeACutIsNoFormerOne() {
        VoyageKeeper x = afterStripes();
        x.cutAfter(0);
        x.second(2);
        x.start();
        Ship.showRuns(x, 64);
        takesPages(x, 2);
    }

    static void pictureOfTheSecondOfTheCutIsNoFormerOne() {
        VoyageKeeper x = new VoyageKeeper();
        Ship.showRuns(x, 64);
        x.cutAfter(2);
        x.second(1);
        Check.yes("has(0, 0)", x.has(0, 0));
        x.start();
        Ship.showRuns(x, 64);
        takesPages(x, 2);
    }

    static void pictureSincePowerCameIsAFormerOne() {
        VoyageKeeper x = Ship.withoutPower();
        x.start();
        Ship.showRuns(x, 64);
        takesPages(x, 2);
        x.show();
        takesPages(x, 1);
    }

    // "STORES: 0 the main store, with 40 pages, 1 and 2 the capsules with 20 and 10."

    private static final int[] PAGES = {40, 20, 10};

    static void storeIsFilledToItsLastPage() {
        for (int store = 0; store < 3; store++) {
            VoyageKeeper x = Ship.afterSeconds(PAGES[store]);
            Check.due("free(" + store + ")", x.free(store), 0);
            Check.yes("has(" + store + ", 0)", x.has(store, 0));
        }
    }

    static void oneBundleMoreThanAStoreHolds() {
        for (int store = 0; store < 3; store++) {
            VoyageKeeper x = Ship.afterSeconds(PAGES[store] + 1);
            Check.due("free(" + store + ")", x.free(store), 0);
            Check.no("has(" + store + ", 0)", x.has(store, 0));
            Check.due("kept(" + store + ", false)", x.kept(store, false), 1);
            Check.due("kept(" + store + ", true)", x.kept(store, true), PAGES[store]);
        }
    }

    // "as long as fewer pages are free than the bundle takes there, the bundle of the earliest second ... is taken out"

    static void bundleThatJustFitsTakesNoneOut() {
        VoyageKeeper x = Ship.afterSeconds(5);
        Ship.fillFivePages(x);
        x.second(6);
        Check.due("free(2)", x.free(2), 0);
        Check.due("kept(2, false)", x.kept(2, false), 0);
    }

    static void bundleThatLacksOnePageTakesOneOut() {
        VoyageKeeper x = Ship.afterSeconds(6);
        Ship.fillFivePages(x);
        x.second(7);
        Check.due("free(2)", x.free(2), 0);
        Check.due("kept(2, false)", x.kept(2, false), 1);
    }

    static void bundleThatLacksFivePagesTakesFiveOut() {
        VoyageKeeper x = Ship.afterSeconds(10);
        Ship.fillFivePages(x);
        x.second(11);
        Check.due("free(2)", x.free(2), 0);
        Check.due("kept(2, false)", x.kept(2, false), 5);
    }

    static void bundleTakenOutLeavesPagesOver() {
        VoyageKeeper x = new VoyageKeeper();
        Ship.fillThreePages(x);
        Ship.closeSeconds(x, 9);
        Check.due("free(2)", x.free(2), 2);
        Check.due("kept(2, false)", x.kept(2, false), 1);
        Ship.closeSeconds(x, 2);
        Check.due("free(2) later", x.free(2), 0);
        Check.due("kept(2, false) later", x.kept(2, false), 1);
    }

    static void onlyTheStoreThatLacksPagesTakesOut() {
        VoyageKeeper x = Ship.afterSeconds(11);
        Check.due("kept(2, false)", x.kept(2, false), 1);
        Check.due("kept(1, false)", x.kept(1, false), 0);
        Check.due("kept(0, false)", x.kept(0, false), 0);
    }

    static void unreadableBundleIsTakenOutInItsTurn() {
        VoyageKeeper x = Ship.afterSeconds(10);
        x.spoil(2, 3);
        x.second(11);
        Check.due("kept(2, false)", x.kept(2, false), 1);
        Check.due("unreadable(2)", x.unreadable(2), 1);
        Ship.closeSeconds(x, 3);
        Check.due("kept(2, false) later", x.kept(2, false), 4);
        Check.due("unreadable(2) later", x.unreadable(2), 0);
    }

    /** The earliest second is not in the least page when the store has rolled over. */
    static void earliestIsTakenOutAfterTheStoreRolledOver() {
        VoyageKeeper x = Ship.afterSeconds(25);
        Check.due("kept(2, false)", x.kept(2, false), 15);
        Check.due("kept(2, true)", x.kept(2, true), 24);
        Check.due("kept(1, false)", x.kept(1, false), 5);
        x.second(26);
        Check.no("has(2, 15)", x.has(2, 15));
        Check.yes("has(2, 16)", x.has(2, 16));
        Check.yes("has(2, 25)", x.has(2, 25));
    }

    // "for each store that has not failed"

    static void failedStoreTakesNoneOut() {
        VoyageKeeper x = Ship.afterSeconds(10);
        x.fail(2, true);
        Check.due("second(11)", x.second(11), 2);
        Check.due("kept(2, false)", x.kept(2, false), 0);
        Check.due("kept(2, true)", x.kept(2, true), 9);
        Check.due("free(2)", x.free(2), 0);
    }

    // "Otherwise it is written into the least pages that are free, one after the other."

    private static boolean isPageOf(VoyageKeeper x, int store, int page, int t) {
        boolean before = x.has(store, t);
        x.spoil(store, page);
        return before && !x.has(store, t);
    }

    static void firstBundleIsInPage0() {
        for (int store = 0; store < 3; store++) {
            Check.yes("page 0 of store " + store, isPageOf(Ship.at(1), store, 0, 0));
            Check.no("page 1 of store " + store, isPageOf(Ship.at(1), store, 1, 0));
        }
    }

    static void bundlesFollowOneAnother() {
        VoyageKeeper x = new VoyageKeeper();
        Ship.fillThreePages(x);
        x.second(1);
        x.second(2);
        Check.yes("page 3 is of second 1", isPageOf(x, 0, 3, 1));
        Check.no("page 4 is of none", isPageOf(x, 0, 4, 0));
        Check.yes("page 2 is of second 0", isPageOf(x, 0, 2, 0));
    }

    static void lastPageIsWritten() {
        for (int store = 0; store < 3; store++) {
            VoyageKeeper x = Ship.afterSeconds(PAGES[store]);
            Check.yes("last page", isPageOf(x, store, PAGES[store] - 1, PAGES[store] - 1));
        }
    }

    static void pagesRollOverToTheLeastFreeOne() {
        VoyageKeeper x = Ship.afterSeconds(12);
        Check.yes("page 0 is of second 10", isPageOf(x, 2, 0, 10));
        Check.yes("page 1 is of second 11", isPageOf(x, 2, 1, 11));
        Check.yes("page 2 is of second 2", isPageOf(x, 2, 2, 2));
    }

    static void pageThatWasLeftOverIsNext() {
        VoyageKeeper x = new VoyageKeeper();
        Ship.fillTwoPages(x);
        Ship.closeSeconds(x, 11);
        Check.due("free(2)", x.free(2), 0);
        Check.yes("page 0 is of second 9", isPageOf(x, 2, 0, 9));
        Check.yes("page 1 is of second 10", isPageOf(x, 2, 1, 10));
        Check.yes("page 2 is of second 1", isPageOf(x, 2, 2, 1));
    }

    /** Main store: second 0 has pages 0 and 1; frozen second 1 has page 2; second 2 has page 3. */
    private static VoyageKeeper bundleInPagesApart() {
        VoyageKeeper x = new VoyageKeeper();
        Ship.fillTwoPages(x);
        x.second(1);
        x.freeze(0, 0);
        while (x.free(0) > 0) {
            x.second(x.now() + 1);
        }
        // Second 39 takes second 0 out, and page 0; second 40 needs page 1 and that of second 2.
        x.second(40);
        Ship.fillTwoPages(x);
        x.second(41);
        return x;
    }

    static void bundleIsWrittenInPagesApart() {
        Check.due("free(0)", bundleInPagesApart().free(0), 0);
        Check.yes("page 1", isPageOf(bundleInPagesApart(), 0, 1, 40));
        Check.yes("page 3", isPageOf(bundleInPagesApart(), 0, 3, 40));
        Check.no("page 2", isPageOf(bundleInPagesApart(), 0, 2, 40));
        Check.yes("page 2 is of second 1", isPageOf(bundleInPagesApart(), 0, 2, 1));
    }

    // "A page that is written is readable."

    static void spoiledFreePageIsReadableWhenWritten() {
        VoyageKeeper x = new VoyageKeeper();
        x.spoil(0, 0);
        x.second(1);
        Check.yes("has(0, 0)", x.has(0, 0));
        Check.due("unreadable(0)", x.unreadable(0), 0);
    }

    static void spoiledPageOfABundleIsReadableWhenWrittenAgain() {
        VoyageKeeper x = Ship.afterSeconds(10);
        x.spoil(2, 0);
        x.second(11);
        Check.yes("has(2, 10)", x.has(2, 10));
        Check.due("unreadable(2)", x.unreadable(2), 0);
    }

    // "A bundle of the main store is frozen when its second is in a freeze"

    /** An object in which seconds 2 to 4 were frozen, as often overwritten as the calls allow. */
    private static VoyageKeeper frozen2To4() {
        VoyageKeeper x = Ship.afterSeconds(3);
        x.freeze(1, 1);
        Ship.closeSeconds(x, 80);
        return x;
    }

    static void firstSecondOfAFreezeIsFrozen() {
        Check.yes("has(0, 2)", frozen2To4().has(0, 2));
    }

    static void lastSecondOfAFreezeIsFrozen() {
        Check.yes("has(0, 4)", frozen2To4().has(0, 4));
    }

    static void secondBeforeAFreezeIsNotFrozen() {
        Check.no("has(0, 1)", frozen2To4().has(0, 1));
    }

    static void secondBehindAFreezeIsNotFrozen() {
        Check.no("has(0, 5)", frozen2To4().has(0, 5));
    }

    static void earliestThatIsNotFrozenIsTakenOut() {
        VoyageKeeper x = Ship.afterSeconds(3);
        x.freeze(3, 0);
        Ship.closeSeconds(x, 38);
        Check.yes("has(0, 0)", x.has(0, 0));
        Check.yes("has(0, 3)", x.has(0, 3));
        Check.no("has(0, 4)", x.has(0, 4));
        Check.yes("has(0, 5)", x.has(0, 5));
    }

    static void freezesThatLieApart() {
        VoyageKeeper x = new VoyageKeeper();
        x.freeze(0, 0);
        x.second(1);
        x.second(2);
        x.freeze(0, 0);
        x.second(3);
        x.second(4);
        x.freeze(0, 0);
        Ship.closeSeconds(x, 60);
        int[] due = {1, 0, 1, 0, 1, 0};
        for (int t = 0; t < due.length; t++) {
            Check.due("has(0, " + t + ")", x.has(0, t) ? 1 : 0, due[t]);
        }
    }

    // "in the capsules none is"

    static void nothingIsFrozenInTheCapsules() {
        VoyageKeeper x = frozen2To4();
        Check.due("kept(1, false)", x.kept(1, false), 63);
        Check.due("kept(2, false)", x.kept(2, false), 73);
    }

    // "if there is none, the store does not get the bundle": with 20 frozen pages at most, half the store is left

    static void mostThatIsFrozenLeavesRoomForTheGreatestBundles() {
        VoyageKeeper x = new VoyageKeeper();
        x.freeze(0, 3);
        for (int t = 1; t <= 30; t++) {
            // A new minute each time, so that each picture is raw.
            Ship.fillFivePages(x);
            Check.due("second", x.second(t < 4 ? t : 10 * t), 3);
        }
        Check.yes("has(0, 0)", x.has(0, 0));
        Check.yes("has(0, 3)", x.has(0, 3));
        Check.no("has(0, 40)", x.has(0, 40));
        Check.due("kept(0, true)", x.kept(0, true), 290);
    }

    // "A bundle IS READABLE when all its pages are."

    static void eachPageOfABundleAlone() {
        for (int page = 0; page < 5; page++) {
            VoyageKeeper x = new VoyageKeeper();
            Ship.fillFivePages(x);
            x.second(1);
            x.second(2);
            x.spoil(0, page);
            Check.no("has(0, 0) without page " + page, x.has(0, 0));
            Check.yes("has(0, 1) without page " + page, x.has(0, 1));
            Check.yes("has(1, 0) without page " + page, x.has(1, 0));
        }
    }

    static void pageBehindABundle() {
        VoyageKeeper x = new VoyageKeeper();
        Ship.fillFivePages(x);
        x.second(1);
        x.spoil(0, 5);
        Check.yes("has(0, 0)", x.has(0, 0));
    }
}
