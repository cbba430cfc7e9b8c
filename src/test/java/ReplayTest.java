/** Promises 15 to 21: replay, what is loaded, and the search. */
public final class ReplayTest {
    private static final int NONE = VoyageKeeper.NONE;
    private static final int STRIPES = Ship.STRIPES;
    private static final int[] NO_STORES = {-1, 3, Integer.MIN_VALUE, Integer.MAX_VALUE};

    public static void main(String[] args) {
        Check.runCases(ReplayTest.class);
    }

    /** Second 0 with a bit of everything is loaded from a store, and second 1 is under way. */
    private static VoyageKeeper loadedFrom(int store) {
        VoyageKeeper x = new VoyageKeeper();
        x.sentence(3, Ship.text(8));
        x.sentence(1, 0x7e20);
        x.sound(0, 3, 200);
        x.sound(1, 0, 255);
        x.contact(0, true);
        x.contact(15, true);
        x.paint(7, 0x1234);
        x.show();
        x.second(1);
        x.replay(store, 0);
        return x;
    }

    private static void isStillLoaded(VoyageKeeper x) {
        Check.due("outSentence(0)", x.outSentence(0), Ship.text(8));
        Check.due("outSentence(1)", x.outSentence(1), 0x7e20);
        Check.due("outSource(0)", x.outSource(0), 3);
        Check.due("outSound(0, 3)", x.outSound(0, 3), 200);
        Check.due("outSound(1, 0)", x.outSound(1, 0), 255);
        Check.due("outContacts()", x.outContacts(), 0x8001);
        Check.due("outRow(7)", x.outRow(7), 0x1234);
    }

    // Promise 15: "Loads the readable bundle of a second from a store"; "Answers how many sentences it has"

    static void replayAnswersHowManySentences() {
        int[][] lengths = {{}, {1}, {1, 1}, {1, 1, 1}, {1, 1, 1, 1}};
        for (int count = 0; count <= 4; count++) {
            VoyageKeeper x = new VoyageKeeper();
            Ship.say(x, lengths[count]);
            x.second(1);
            for (int store = 0; store < 3; store++) {
                Check.due("replay(" + store + ", 0)", x.replay(store, 0), count);
            }
        }
    }

    static void replayLoadsAll() {
        isStillLoaded(loadedFrom(0));
        isStillLoaded(loadedFrom(1));
    }

    // "in place of what was loaded"

    static void replayOfAnotherSecondTakesThePlace() {
        VoyageKeeper x = loadedFrom(0);
        x.contact(0, false);
        x.contact(15, false);
        x.second(12);
        x.second(13);
        Check.due("replay(0, 12)", x.replay(0, 12), 0);
        Check.due("outSentence(0)", x.outSentence(0), 0);
        Check.due("outSource(0)", x.outSource(0), NONE);
        Check.due("outSound(0, 3)", x.outSound(0, 3), 0);
        Check.due("outSound(1, 0)", x.outSound(1, 0), 0);
        Check.due("outContacts()", x.outContacts(), 0);
        Check.due("outRow(7)", x.outRow(7), 0);
    }

    // "NONE when there is none such (what was loaded stays)"

    static void replayOfNoSuchStore() {
        VoyageKeeper x = loadedFrom(0);
        for (int store : NO_STORES) {
            Check.due("replay(" + store + ", 0)", x.replay(store, 0), NONE);
        }
        isStillLoaded(x);
    }

    static void replayOfTheSecondUnderWay() {
        VoyageKeeper x = loadedFrom(0);
        Check.due("replay(0, 1)", x.replay(0, 1), NONE);
        isStillLoaded(x);
    }

    static void replayOfASecondThatWasLeftOut() {
        VoyageKeeper x = loadedFrom(0);
        x.second(9);
        Check.due("replay(0, 5)", x.replay(0, 5), NONE);
        isStillLoaded(x);
    }

    static void replayOfSecondsFarOff() {
        VoyageKeeper x = loadedFrom(0);
        Check.due("replay(0, -1)", x.replay(0, -1), NONE);
        Check.due("replay(0, MIN)", x.replay(0, Integer.MIN_VALUE), NONE);
        Check.due("replay(0, 10000)", x.replay(0, 10000), NONE);
        Check.due("replay(0, MAX)", x.replay(0, Integer.MAX_VALUE), NONE);
        isStillLoaded(x);
    }

    static void replayOfAnUnreadableBundle() {
        VoyageKeeper x = loadedFrom(0);
        x.spoil(0, 0);
        Check.due("replay(0, 0)", x.replay(0, 0), NONE);
        isStillLoaded(x);
    }

    static void replayOfABundleTakenOut() {
        VoyageKeeper x = loadedFrom(0);
        Ship.closeSeconds(x, 45);
        Check.due("replay(0, 0)", x.replay(0, 0), NONE);
        isStillLoaded(x);
    }

    static void replayOfASecondThatAFailedStoreDidNotGet() {
        VoyageKeeper x = loadedFrom(0);
        x.fail(2, true);
        x.second(2);
        Check.due("replay(2, 1)", x.replay(2, 1), NONE);
        isStillLoaded(x);
    }

    static void whatIsLoadedStaysThroughACut() {
        VoyageKeeper x = loadedFrom(0);
        x.cutAfter(0);
        x.second(2);
        isStillLoaded(x);
        x.start();
        isStillLoaded(x);
    }

    static void whatIsLoadedStaysAsMoreComesIn() {
        VoyageKeeper x = loadedFrom(0);
        Ship.fillFivePages(x);
        x.contact(7, true);
        x.second(2);
        isStillLoaded(x);
    }

    static void replayWithPowerOff() {
        VoyageKeeper x = loadedFrom(0);
        x.second(2);
        x.cutAfter(0);
        x.second(3);
        Check.due("replay(0, 1)", x.replay(0, 1), 0);
        Check.due("replay(0, 2)", x.replay(0, 2), NONE);
        Check.due("replay(0, 0)", x.replay(0, 0), 2);
        isStillLoaded(x);
    }

    // Promise 16: "Sentence k (from 0) that is loaded, as it came; 0 when there is none."

    static void outSentenceInOrder() {
        VoyageKeeper x = new VoyageKeeper();
        Ship.say(x, 4, 1, 8, 2);
        x.second(1);
        x.replay(0, 0);
        int[] signs = {4, 1, 8, 2};
        for (int k = 0; k < 4; k++) {
            Check.due("outSentence(" + k + ")", x.outSentence(k), Ship.text(signs[k]));
        }
    }

    static void outSentenceOfMinus1() {
        Check.due("outSentence(-1)", loadedFrom(0).outSentence(-1), 0);
    }

    static void outSentenceBehindTheLast() {
        Check.due("outSentence(2)", loadedFrom(0).outSentence(2), 0);
    }

    static void outSentence4OfFour() {
        VoyageKeeper x = new VoyageKeeper();
        Ship.say(x, 1, 1, 1, 1);
        x.second(1);
        x.replay(0, 0);
        Check.due("outSentence(3)", x.outSentence(3), 65);
        Check.due("outSentence(4)", x.outSentence(4), 0);
    }

    static void outSentenceFarOff() {
        VoyageKeeper x = loadedFrom(0);
        for (int far : Ship.FAR_OFF) {
            Check.due("outSentence(" + far + ")", x.outSentence(far), 0);
        }
    }

    static void outSentenceOfNothingLoaded() {
        VoyageKeeper x = new VoyageKeeper();
        x.sentence(0, 65);
        x.second(1);
        for (int k = -1; k <= 4; k++) {
            Check.due("outSentence(" + k + ")", x.outSentence(k), 0);
        }
    }

    // Promise 17: "The source of sentence k that is loaded; NONE when there is none."

    static void outSourceInOrder() {
        VoyageKeeper x = new VoyageKeeper();
        int[] sources = {3, 0, 0, 2};
        for (int source : sources) {
            x.sentence(source, 65);
        }
        x.second(1);
        x.replay(0, 0);
        for (int k = 0; k < 4; k++) {
            Check.due("outSource(" + k + ")", x.outSource(k), sources[k]);
        }
    }

    static void outSourceOfMinus1() {
        Check.due("outSource(-1)", loadedFrom(0).outSource(-1), NONE);
    }

    static void outSourceBehindTheLast() {
        Check.due("outSource(2)", loadedFrom(0).outSource(2), NONE);
    }

    static void outSource4OfFour() {
        VoyageKeeper x = new VoyageKeeper();
        Ship.say(x, 1, 1, 1, 1);
        x.second(1);
        x.replay(0, 0);
        Check.due("outSource(3)", x.outSource(3), 3);
        Check.due("outSource(4)", x.outSource(4), NONE);
    }

    static void outSourceFarOff() {
        VoyageKeeper x = loadedFrom(0);
        for (int far : Ship.FAR_OFF) {
            Check.due("outSource(" + far + ")", x.outSource(far), NONE);
        }
    }

    static void outSourceOfNothingLoaded() {
        VoyageKeeper x = new VoyageKeeper();
        x.sentence(0, 65);
        x.second(1);
        for (int k = -1; k <= 4; k++) {
            Check.due("outSource(" + k + ")", x.outSource(k), NONE);
        }
    }

    // Promise 18: "Byte k of a channel's sound that is loaded (0 where none is)"

    static void outSoundWhereNoneCame() {
        VoyageKeeper x = loadedFrom(0);
        Check.due("outSound(0, 0)", x.outSound(0, 0), 0);
        Check.due("outSound(1, 3)", x.outSound(1, 3), 0);
    }

    static void outSoundOfNothingLoaded() {
        VoyageKeeper x = new VoyageKeeper();
        x.sound(0, 0, 7);
        x.second(1);
        for (int k = 0; k < 4; k++) {
            Check.due("outSound(0, " + k + ")", x.outSound(0, k), 0);
            Check.due("outSound(1, " + k + ")", x.outSound(1, k), 0);
        }
    }

    static void outSoundOfChannel1FromStore2() {
        VoyageKeeper x = loadedFrom(2);
        Check.due("outSound(1, 0)", x.outSound(1, 0), 0);
        Check.due("outSound(0, 3)", x.outSound(0, 3), 200);
        x.replay(1, 0);
        Check.due("outSound(1, 0) from store 1", x.outSound(1, 0), 255);
    }

    // "NONE when there is no such channel or byte"

    static void outSoundOfChannelMinus1() {
        Check.due("outSound(-1, 0)", loadedFrom(0).outSound(-1, 0), NONE);
    }

    static void outSoundOfChannel2() {
        Check.due("outSound(2, 0)", loadedFrom(0).outSound(2, 0), NONE);
    }

    static void outSoundOfByteMinus1() {
        VoyageKeeper x = loadedFrom(0);
        Check.due("outSound(0, -1)", x.outSound(0, -1), NONE);
        Check.due("outSound(1, -1)", x.outSound(1, -1), NONE);
    }

    static void outSoundOfByte4() {
        VoyageKeeper x = loadedFrom(0);
        Check.due("outSound(0, 4)", x.outSound(0, 4), NONE);
        Check.due("outSound(1, 4)", x.outSound(1, 4), NONE);
    }

    static void outSoundOfNoSuchByteFromStore2() {
        VoyageKeeper x = loadedFrom(2);
        Check.due("outSound(1, -1)", x.outSound(1, -1), NONE);
        Check.due("outSound(1, 4)", x.outSound(1, 4), NONE);
    }

    static void outSoundOfNoSuchByteOfNothingLoaded() {
        VoyageKeeper x = new VoyageKeeper();
        Check.due("outSound(-1, 0)", x.outSound(-1, 0), NONE);
        Check.due("outSound(2, 0)", x.outSound(2, 0), NONE);
        Check.due("outSound(0, -1)", x.outSound(0, -1), NONE);
        Check.due("outSound(0, 4)", x.outSound(0, 4), NONE);
    }

    static void outSoundFarOff() {
        VoyageKeeper x = loadedFrom(0);
        for (int far : Ship.FAR_OFF) {
            Check.due("outSound(" + far + ", 0)", x.outSound(far, 0), NONE);
            Check.due("outSound(0, " + far + ")", x.outSound(0, far), NONE);
        }
    }

    // Promise 19: "The contacts that are loaded, as the sum of 2^contact."

    static void outContactsOfNothingLoaded() {
        VoyageKeeper x = new VoyageKeeper();
        x.contact(3, true);
        x.second(1);
        Check.due("outContacts()", x.outContacts(), 0);
    }

    static void outContactsWithAllOff() {
        VoyageKeeper x = Ship.at(1);
        x.replay(0, 0);
        Check.due("outContacts()", x.outContacts(), 0);
    }

    static void outContactsFromEachStore() {
        for (int store = 0; store < 3; store++) {
            Check.due("outContacts()", loadedFrom(store).outContacts(), 0x8001);
        }
    }

    // Promise 20: "NONE when there is no such row"

    private static void hasNoOtherRows(VoyageKeeper x) {
        Check.due("outRow(-1)", x.outRow(-1), NONE);
        Check.due("outRow(8)", x.outRow(8), NONE);
        for (int far : Ship.FAR_OFF) {
            Check.due("outRow(" + far + ")", x.outRow(far), NONE);
        }
    }

    static void outRowOfNoSuchRow() {
        hasNoOtherRows(loadedFrom(0));
    }

    static void outRowOfNoSuchRowOfNothingLoaded() {
        hasNoOtherRows(new VoyageKeeper());
    }

    static void outRowOfNoSuchRowWhenNoneIsKnown() {
        VoyageKeeper x = chain(2);
        x.spoil(0, 0);
        x.replay(0, 1);
        Check.due("outRow(0)", x.outRow(0), NONE);
        hasNoOtherRows(x);
    }

    // "0 when nothing was loaded"

    static void outRowOfNothingLoaded() {
        VoyageKeeper x = new VoyageKeeper();
        Ship.showRuns(x, 64);
        x.second(1);
        for (int row = 0; row < 8; row++) {
            Check.due("outRow(" + row + ")", x.outRow(row), 0);
        }
    }

    static void outRowOfNothingLoadedAfterARefusedReplay() {
        VoyageKeeper x = chain(2);
        x.spoil(0, 0);
        Check.due("replay(0, 0)", x.replay(0, 0), NONE);
        Check.due("outRow(0)", x.outRow(0), 0);
    }

    // "at first all cells are 0"

    static void minuteWithoutPictures() {
        VoyageKeeper x = new VoyageKeeper();
        x.paint(2, 77);
        x.second(1);
        x.replay(0, 0);
        for (int row = 0; row < 8; row++) {
            Check.due("outRow(" + row + ")", x.outRow(row), 0);
        }
    }

    static void pictureBehindTheSecondIsNotKnownYet() {
        VoyageKeeper x = Ship.at(3);
        Ship.showRuns(x, 64);
        x.second(4);
        x.replay(0, 0);
        Check.due("outRow(0)", x.outRow(0), 0);
    }

    static void unreadablePictureBeforeLeavesAll0() {
        VoyageKeeper x = new VoyageKeeper();
        Ship.showRuns(x, 64);
        x.second(1);
        x.second(2);
        x.spoil(0, 0);
        x.replay(0, 1);
        Check.due("outRow(0)", x.outRow(0), 0);
    }

    // "the store's readable bundles of the second's minute up to it"

    static void pictureOfTheMinuteBeforeIsNotKnown() {
        VoyageKeeper x = Ship.at(9);
        Ship.showRuns(x, 64);
        x.second(10);
        x.second(11);
        x.replay(0, 10);
        Check.due("outRow(0)", x.outRow(0), 0);
    }

    static void pictureOfTheFirstSecondIsKnownInTheLastOfTheMinute() {
        VoyageKeeper x = Ship.at(10);
        Ship.showRuns(x, 64);
        x.second(19);
        x.second(20);
        x.replay(0, 19);
        Check.due("outRow(0)", x.outRow(0), STRIPES);
    }

    static void pictureOfAnotherStoreIsNotKnown() {
        VoyageKeeper x = new VoyageKeeper();
        Ship.showRuns(x, 64);
        x.fail(1, true);
        x.second(1);
        x.fail(1, false);
        x.show();
        x.second(2);
        x.replay(1, 1);
        Check.due("outRow(0) from store 1", x.outRow(0), NONE);
        x.replay(2, 1);
        Check.due("outRow(0) from store 2", x.outRow(0), STRIPES);
    }

    static void picturesWhenTheStoreRolledOver() {
        VoyageKeeper x = Ship.afterSeconds(38);
        Ship.paintRuns(x, 64);
        for (int t = 38; t < 46; t++) {
            x.paint(0, t);
            x.show();
            x.second(t + 1);
        }
        for (int t = 38; t < 46; t++) {
            x.replay(0, t);
            Check.due("outRow(0) of " + t, x.outRow(0), t);
        }
    }

    // "a raw picture, or one of runs, is known then"

    static void rawPictureIsKnown() {
        VoyageKeeper x = new VoyageKeeper();
        Ship.showRuns(x, 64);
        x.second(1);
        x.replay(0, 0);
        for (int row = 0; row < 8; row++) {
            Check.due("outRow(" + row + ")", x.outRow(row), STRIPES);
        }
    }

    static void pictureOfRunsIsKnown() {
        VoyageKeeper x = new VoyageKeeper();
        Ship.paintAll(x, 0x5555);
        x.show();
        x.second(1);
        x.replay(0, 0);
        for (int row = 0; row < 8; row++) {
            Check.due("outRow(" + row + ")", x.outRow(row), 0x5555);
        }
    }

    // "one of changes is known then, if the picture against which it was coded was known just before, else none is"

    /** Shows the stripes at second 0, on pages 0 and 1, and with another row 0 on one page at each next second. */
    private static VoyageKeeper chain(int seconds) {
        VoyageKeeper x = new VoyageKeeper();
        Ship.paintRuns(x, 64);
        for (int t = 0; t < seconds; t++) {
            x.paint(0, t);
            x.show();
            x.second(t + 1);
        }
        return x;
    }

    static void eachOfAChainIsKnown() {
        VoyageKeeper x = chain(10);
        Check.due("free(0)", x.free(0), 29);
        for (int t = 0; t < 10; t++) {
            x.replay(0, t);
            Check.due("outRow(0) of " + t, x.outRow(0), t);
            Check.due("outRow(7) of " + t, x.outRow(7), STRIPES);
        }
    }

    static void firstOfAChainIsUnreadable() {
        VoyageKeeper x = chain(3);
        x.spoil(0, 1);
        x.replay(0, 1);
        for (int row = 0; row < 8; row++) {
            Check.due("outRow(" + row + ")", x.outRow(row), NONE);
        }
    }

    static void oneOfAChainIsUnreadable() {
        VoyageKeeper x = chain(5);
        x.spoil(0, 3);
        x.replay(0, 1);
        Check.due("before it", x.outRow(0), 1);
        x.replay(0, 3);
        Check.due("just behind it", x.outRow(0), NONE);
        x.replay(0, 4);
        Check.due("farther behind it", x.outRow(0), NONE);
    }

    static void firstOfAChainWasTakenOut() {
        VoyageKeeper x = chain(2);
        Ship.closeSeconds(x, 8);
        Check.due("kept(2, false)", x.kept(2, false), 1);
        x.replay(2, 1);
        Check.due("outRow(0) from store 2", x.outRow(0), NONE);
        x.replay(1, 1);
        Check.due("outRow(0) from store 1", x.outRow(0), 1);
    }

    static void pictureAgainstOneThatNoStoreGot() {
        VoyageKeeper x = new VoyageKeeper();
        Ship.showRuns(x, 64);
        Ship.failAll(x, true);
        x.second(1);
        Ship.failAll(x, false);
        x.show();
        x.second(2);
        x.replay(0, 1);
        Check.due("outRow(0)", x.outRow(0), NONE);
    }

    static void pictureKnownBeforeIsNotTheOneCodedAgainst() {
        VoyageKeeper x = chain(3);
        x.spoil(0, 2);
        x.replay(0, 2);
        Check.due("outRow(0)", x.outRow(0), NONE);
    }

    /** The document's words are taken so: the picture is that of a second, whatever another one is like. */
    static void likePictureOfAnotherSecondIsNotTheOneCodedAgainst() {
        VoyageKeeper x = new VoyageKeeper();
        Ship.paintRuns(x, 64);
        for (int t = 1; t <= 3; t++) {
            x.show();
            x.second(t);
        }
        x.spoil(0, 2);
        Check.no("has(0, 1)", x.has(0, 1));
        x.replay(0, 2);
        Check.due("outRow(0)", x.outRow(0), NONE);
    }

    static void runsBehindAGapAreKnown() {
        VoyageKeeper x = chain(3);
        x.spoil(0, 0);
        Ship.paintAll(x, 0x5555);
        x.show();
        x.second(4);
        x.replay(0, 3);
        Check.due("outRow(0)", x.outRow(0), 0x5555);
    }

    static void rawBehindAGapIsKnown() {
        VoyageKeeper x = chain(3);
        x.spoil(0, 0);
        Ship.paintAll(x, 0x1b1b);
        x.show();
        x.second(4);
        x.replay(0, 3);
        Check.due("outRow(0)", x.outRow(0), 0x1b1b);
    }

    static void changesBehindAPictureKnownAgain() {
        VoyageKeeper x = chain(3);
        x.spoil(0, 0);
        Ship.paintAll(x, 0x1b1b);
        x.show();
        x.second(4);
        x.paint(0, 9);
        x.show();
        x.second(5);
        x.replay(0, 4);
        Check.due("outRow(0)", x.outRow(0), 9);
        Check.due("outRow(1)", x.outRow(1), 0x1b1b);
    }

    // "a bundle without a picture changes nothing"

    static void noPictureLeavesOneKnown() {
        VoyageKeeper x = chain(2);
        x.second(5);
        x.second(6);
        x.replay(0, 5);
        Check.due("outRow(0)", x.outRow(0), 1);
    }

    static void noPictureLeavesNoneKnown() {
        VoyageKeeper x = chain(2);
        x.second(5);
        x.spoil(0, 0);
        x.replay(0, 2);
        Check.due("outRow(0)", x.outRow(0), NONE);
    }

    static void changesOverASecondWithoutAPicture() {
        VoyageKeeper x = chain(2);
        x.second(3);
        x.paint(0, 7);
        x.show();
        x.second(4);
        x.replay(0, 3);
        Check.due("outRow(0)", x.outRow(0), 7);
    }

    static void unreadableSecondWithoutAPictureBetween() {
        VoyageKeeper x = chain(2);
        x.second(3);
        x.show();
        x.second(4);
        x.spoil(0, 3);
        Check.no("has(0, 2)", x.has(0, 2));
        x.replay(0, 3);
        Check.due("outRow(0)", x.outRow(0), 1);
    }

    // "A row of the picture that was known at the loading"

    static void pictureStaysWhenItsPagesAreSpoiled() {
        VoyageKeeper x = chain(3);
        x.replay(0, 2);
        x.spoil(0, 0);
        x.spoil(0, 3);
        Check.due("outRow(0)", x.outRow(0), 2);
    }

    static void pictureStaysWhenItsBundlesAreTakenOut() {
        VoyageKeeper x = chain(3);
        x.replay(2, 2);
        Ship.closeSeconds(x, 30);
        Check.due("outRow(0)", x.outRow(0), 2);
    }

    static void pictureStaysUnknownWhenAnotherIsWritten() {
        VoyageKeeper x = chain(2);
        x.spoil(0, 0);
        x.replay(0, 1);
        Ship.paintAll(x, 0x5555);
        x.show();
        x.second(3);
        Check.due("outRow(0)", x.outRow(0), NONE);
    }

    static void paintingLeavesTheLoadedPicture() {
        VoyageKeeper x = chain(2);
        x.replay(0, 1);
        Ship.paintAll(x, 0x5555);
        Check.due("outRow(0)", x.outRow(0), 1);
        Check.due("outRow(1)", x.outRow(1), STRIPES);
    }

    // Promise 21: "The least second, from some on, of which a store has a readable bundle with a sentence of a source"

    /** Second 0 with sources 0 and 2, second 4 with source 1, second 6 with source 2 and 3, all on one page. */
    private static VoyageKeeper withSources() {
        VoyageKeeper x = new VoyageKeeper();
        x.sentence(0, 65);
        x.sentence(2, 65);
        x.second(4);
        x.sentence(1, 65);
        x.second(6);
        x.sentence(2, 65);
        x.sentence(3, 65);
        x.second(8);
        return x;
    }

    static void findFromTheSecondItself() {
        VoyageKeeper x = withSources();
        Check.due("find(0, 2, 0)", x.find(0, 2, 0), 0);
        Check.due("find(0, 1, 4)", x.find(0, 1, 4), 4);
        Check.due("find(0, 2, 6)", x.find(0, 2, 6), 6);
    }

    static void findFromOneBehindTheSecond() {
        VoyageKeeper x = withSources();
        Check.due("find(0, 2, 1)", x.find(0, 2, 1), 6);
        Check.due("find(0, 1, 5)", x.find(0, 1, 5), NONE);
        Check.due("find(0, 2, 7)", x.find(0, 2, 7), NONE);
    }

    static void findFromBelow0() {
        VoyageKeeper x = withSources();
        Check.due("find(0, 2, -1)", x.find(0, 2, -1), 0);
        Check.due("find(0, 1, MIN)", x.find(0, 1, Integer.MIN_VALUE), 4);
    }

    static void findFromFarAhead() {
        VoyageKeeper x = withSources();
        Check.due("find(0, 2, 10000)", x.find(0, 2, 10000), NONE);
        Check.due("find(0, 2, MAX)", x.find(0, 2, Integer.MAX_VALUE), NONE);
    }

    static void findOfEachSentenceOfASecond() {
        VoyageKeeper x = new VoyageKeeper();
        Ship.say(x, 1, 1, 1, 1);
        x.second(1);
        for (int source = 0; source < 4; source++) {
            Check.due("find(0, " + source + ", 0)", x.find(0, source, 0), 0);
        }
    }

    static void findInEachStore() {
        VoyageKeeper x = withSources();
        for (int store = 0; store < 3; store++) {
            Check.due("find(" + store + ", 3, 0)", x.find(store, 3, 0), 6);
        }
    }

    static void findPassesUnreadableBundles() {
        VoyageKeeper x = withSources();
        x.spoil(0, 0);
        Check.due("find(0, 2, 0)", x.find(0, 2, 0), 6);
        Check.due("find(1, 2, 0)", x.find(1, 2, 0), 0);
        x.spoil(0, 2);
        Check.due("find(0, 2, 0) without second 6", x.find(0, 2, 0), NONE);
    }

    static void findPassesBundlesWithAnySpoiledPage() {
        VoyageKeeper x = new VoyageKeeper();
        Ship.fillFivePages(x);
        x.second(1);
        x.spoil(0, 4);
        Check.due("find(0, 0, 0)", x.find(0, 0, 0), NONE);
    }

    static void findWhenTheStoreRolledOver() {
        VoyageKeeper x = new VoyageKeeper();
        for (int t = 1; t <= 15; t++) {
            x.sentence(1, 65);
            x.second(t);
        }
        Check.due("find(2, 1, 0)", x.find(2, 1, 0), 5);
        Check.due("find(2, 1, 12)", x.find(2, 1, 12), 12);
    }

    // "NONE when there is none"

    static void findOfASourceThatSaidNothing() {
        VoyageKeeper x = new VoyageKeeper();
        x.sentence(1, 65);
        x.second(1);
        Check.due("find(0, 0, 0)", x.find(0, 0, 0), NONE);
        Check.due("find(0, 3, 0)", x.find(0, 3, 0), NONE);
    }

    static void findOfNoSuchSource() {
        VoyageKeeper x = withSources();
        Check.due("find(0, -1, 0)", x.find(0, -1, 0), NONE);
        Check.due("find(0, 4, 0)", x.find(0, 4, 0), NONE);
        for (int far : Ship.FAR_OFF) {
            Check.due("find(0, " + far + ", 0)", x.find(0, far, 0), NONE);
        }
    }

    static void findInNoSuchStore() {
        VoyageKeeper x = withSources();
        for (int store : NO_STORES) {
            Check.due("find(" + store + ", 2, 0)", x.find(store, 2, 0), NONE);
        }
    }

    static void findInTheSecondUnderWay() {
        VoyageKeeper x = new VoyageKeeper();
        x.sentence(0, 65);
        Check.due("find(0, 0, 0)", x.find(0, 0, 0), NONE);
    }

    static void findWithPowerOff() {
        VoyageKeeper x = withSources();
        x.cutAfter(0);
        x.second(9);
        Check.due("find(0, 2, 1)", x.find(0, 2, 1), 6);
    }
}
