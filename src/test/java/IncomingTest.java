/** Promises 1 to 6: a new object, and what comes in in the second under way. */
public final class IncomingTest {
    private static final int NONE = VoyageKeeper.NONE;

    public static void main(String[] args) {
        Check.runCases(IncomingTest.class);
    }

    // Promise 1: "Nothing is recorded; second 0 is under way."

    static void newObjectHasSecond0UnderWay() {
        Check.due("now()", new VoyageKeeper().now(), 0);
    }

    static void newObjectKeepsNothing() {
        VoyageKeeper x = new VoyageKeeper();
        for (int store = 0; store < 3; store++) {
            Check.due("kept first", x.kept(store, false), NONE);
            Check.due("kept last", x.kept(store, true), NONE);
            Check.no("has", x.has(store, 0));
            Check.due("replay", x.replay(store, 0), NONE);
            Check.due("find", x.find(store, 0, 0), NONE);
            Check.due("unreadable", x.unreadable(store), 0);
        }
    }

    static void newObjectHasAllPagesFree() {
        VoyageKeeper x = new VoyageKeeper();
        Check.due("free(0)", x.free(0), 40);
        Check.due("free(1)", x.free(1), 20);
        Check.due("free(2)", x.free(2), 10);
    }

    static void newObjectHasNoFreeze() {
        VoyageKeeper x = new VoyageKeeper();
        for (int number = 0; number < 3; number++) {
            Check.due("frozen first", x.frozen(number, false), NONE);
            Check.due("frozen last", x.frozen(number, true), NONE);
        }
    }

    static void newObjectHasPowerOn() {
        Check.no("start()", new VoyageKeeper().start());
    }

    static void newObjectHasNoFailedStore() {
        VoyageKeeper x = new VoyageKeeper();
        for (int store = 0; store < 3; store++) {
            Check.no("fail(" + store + ", false)", x.fail(store, false));
        }
    }

    static void newObjectHasNothingComeIn() {
        VoyageKeeper x = new VoyageKeeper();
        x.second(1);
        Check.due("replay", x.replay(0, 0), 0);
        Check.due("outSound(0, 0)", x.outSound(0, 0), 0);
        Check.due("outSound(1, 0)", x.outSound(1, 0), 0);
        Check.due("outContacts()", x.outContacts(), 0);
    }

    static void newObjectHasNoCutPlanned() {
        VoyageKeeper x = new VoyageKeeper();
        for (int t = 1; t <= 100; t++) {
            Check.due("second(" + t + ")", x.second(t), 3);
        }
    }

    static void newObjectSharesNothingWithAnother() {
        VoyageKeeper other = new VoyageKeeper();
        Ship.fillFivePages(other);
        other.contact(3, true);
        other.second(1);
        other.freeze(1, 0);
        other.replay(0, 0);
        VoyageKeeper x = new VoyageKeeper();
        Check.due("now()", x.now(), 0);
        Check.due("free(0)", x.free(0), 40);
        Check.due("frozen(0, true)", x.frozen(0, true), NONE);
        Check.due("outSentence(0)", x.outSentence(0), 0);
        Check.due("outContacts()", x.outContacts(), 0);
        Check.due("outRow(0)", x.outRow(0), 0);
    }

    static void noneIsMinusOne() {
        Check.due("NONE", VoyageKeeper.NONE, -1);
    }

    // Promise 2: "Answers how many the second has"

    static void sentencesAreCounted() {
        VoyageKeeper x = new VoyageKeeper();
        for (int count = 1; count <= 4; count++) {
            Check.due("sentence " + count, x.sentence(0, 65), count);
        }
    }

    static void sentencesAreCountedAnewInTheNextSecond() {
        VoyageKeeper x = new VoyageKeeper();
        Ship.say(x, 1, 1, 1, 1);
        x.second(1);
        Check.due("sentence(0, 65)", x.sentence(0, 65), 1);
    }

    // "NONE when source is not 0 .. 3"

    static void sentenceOfSourceMinus1() {
        Check.due("sentence(-1, 65)", new VoyageKeeper().sentence(-1, 65), NONE);
    }

    static void sentenceOfSource0() {
        Check.due("sentence(0, 65)", new VoyageKeeper().sentence(0, 65), 1);
    }

    static void sentenceOfSource3() {
        Check.due("sentence(3, 65)", new VoyageKeeper().sentence(3, 65), 1);
    }

    static void sentenceOfSource4() {
        Check.due("sentence(4, 65)", new VoyageKeeper().sentence(4, 65), NONE);
    }

    static void sentenceOfSourcesFarOff() {
        VoyageKeeper x = new VoyageKeeper();
        for (int source : Ship.FAR_OFF) {
            Check.due("sentence(" + source + ", 65)", x.sentence(source, 65), NONE);
        }
    }

    // "the text is none (a 0 first, or before other signs, a sign that is not 32 .. 126)"

    private static void isText(long text) {
        VoyageKeeper x = new VoyageKeeper();
        String told = Long.toHexString(text);
        Check.due("sentence(1, 0x" + told + ")", x.sentence(1, text), 1);
        x.second(1);
        x.replay(0, 0);
        Check.due("outSentence(0) of 0x" + told, x.outSentence(0), text);
    }

    private static void isNoText(long text) {
        VoyageKeeper x = new VoyageKeeper();
        Check.due("sentence(1, 0x" + Long.toHexString(text) + ")", x.sentence(1, text), NONE);
        Check.due("the next one", x.sentence(1, 65), 1);
    }

    /** A text of eight signs, A but for the one at a place from 0 to 7. */
    private static long eightSigns(int place, long sign) {
        return 0x4141414141414141L & ~(255L << 8 * place) | sign << 8 * place;
    }

    static void textOfNoSigns() {
        isNoText(0L);
    }

    static void textWithA0First() {
        isNoText(0x4100L);
    }

    static void textWithA0FirstAndOneSignLast() {
        isNoText(0x4100000000000000L);
    }

    static void textWithA0BeforeAnotherSign() {
        isNoText(0x410041L);
    }

    static void textWithA0AtEachPlaceBeforeTheLast() {
        for (int place = 0; place < 7; place++) {
            isNoText(eightSigns(place, 0));
        }
    }

    static void textWithA0AtTheLastPlace() {
        isText(eightSigns(7, 0));
    }

    static void textsOfOneToEightSigns() {
        for (int signs = 1; signs <= 8; signs++) {
            isText(Ship.text(signs));
        }
    }

    static void textWithASignOf31() {
        isNoText(31L);
    }

    static void textWithASignOf32() {
        isText(32L);
    }

    static void textWithASignOf126() {
        isText(126L);
    }

    static void textWithASignOf127() {
        isNoText(127L);
    }

    static void textWithSignsOf1And128And255() {
        isNoText(1L);
        isNoText(128L);
        isNoText(255L);
    }

    static void textWithASignOf31AtEachPlace() {
        for (int place = 0; place < 8; place++) {
            isNoText(eightSigns(place, 31));
        }
    }

    static void textWithASignOf32AtEachPlace() {
        for (int place = 0; place < 8; place++) {
            isText(eightSigns(place, 32));
        }
    }

    static void textWithASignOf126AtEachPlace() {
        for (int place = 0; place < 8; place++) {
            isText(eightSigns(place, 126));
        }
    }

    static void textWithASignOf127AtEachPlace() {
        for (int place = 0; place < 8; place++) {
            isNoText(eightSigns(place, 127));
        }
    }

    static void textsBelow0() {
        isNoText(-1L);
        isNoText(Long.MIN_VALUE);
        isNoText(eightSigns(7, 128));
        isNoText(eightSigns(7, 255));
    }

    static void textOfTheGreatestLong() {
        isNoText(Long.MAX_VALUE);
    }

    // "or there are 4"

    static void fifthSentence() {
        VoyageKeeper x = new VoyageKeeper();
        Ship.say(x, 1, 1, 1, 1);
        Check.due("sentence(0, 65)", x.sentence(0, 65), NONE);
        x.second(1);
        Check.due("replay(0, 0)", x.replay(0, 0), 4);
    }

    static void refusedSentenceTakesNoPlace() {
        VoyageKeeper x = new VoyageKeeper();
        Ship.say(x, 1, 1, 1);
        x.sentence(4, 65);
        x.sentence(0, 0);
        Check.due("sentence(0, 65)", x.sentence(0, 65), 4);
    }

    // "IllegalStateException: power is off."

    static void sentenceWithPowerOff() {
        VoyageKeeper x = Ship.withoutPower();
        Check.throwsState("sentence(0, 65)", () -> x.sentence(0, 65));
    }

    static void wrongSentenceWithPowerOff() {
        VoyageKeeper x = Ship.withoutPower();
        Check.throwsState("sentence(4, 65)", () -> x.sentence(4, 65));
        Check.throwsState("sentence(0, 0)", () -> x.sentence(0, 0));
    }

    // Promise 3: "Byte k (0 .. 3) of a channel's sound becomes b (0 .. 255)."

    static void soundAtEachByteOfEachChannel() {
        VoyageKeeper x = new VoyageKeeper();
        for (int i = 0; i < 8; i++) {
            Check.yes("sound " + i, x.sound(i / 4, i % 4, 100 + i));
        }
        x.second(1);
        x.replay(0, 0);
        for (int i = 0; i < 8; i++) {
            Check.due("outSound " + i, x.outSound(i / 4, i % 4), 100 + i);
        }
    }

    static void soundBytesThatDidNotComeAre0() {
        VoyageKeeper x = new VoyageKeeper();
        x.sound(0, 1, 9);
        x.second(1);
        x.replay(0, 0);
        int[] due = {0, 9, 0, 0};
        for (int k = 0; k < 4; k++) {
            Check.due("outSound(0, " + k + ")", x.outSound(0, k), due[k]);
            Check.due("outSound(1, " + k + ")", x.outSound(1, k), 0);
        }
    }

    static void laterSoundTakesThePlace() {
        VoyageKeeper x = new VoyageKeeper();
        x.sound(0, 3, 255);
        Check.yes("sound(0, 3, 7)", x.sound(0, 3, 7));
        x.second(1);
        x.replay(0, 0);
        Check.due("outSound(0, 3)", x.outSound(0, 3), 7);
    }

    static void soundIsGoneInTheNextSecond() {
        VoyageKeeper x = new VoyageKeeper();
        x.sound(0, 0, 5);
        x.sound(1, 3, 6);
        x.second(1);
        x.second(2);
        x.replay(0, 1);
        Check.due("outSound(0, 0)", x.outSound(0, 0), 0);
        Check.due("outSound(1, 3)", x.outSound(1, 3), 0);
    }

    // "false when there is no such channel, byte or b"

    static void soundOfChannelMinus1() {
        Check.no("sound(-1, 0, 0)", new VoyageKeeper().sound(-1, 0, 0));
    }

    static void soundOfChannel2() {
        Check.no("sound(2, 0, 0)", new VoyageKeeper().sound(2, 0, 0));
    }

    static void soundOfByteMinus1() {
        VoyageKeeper x = new VoyageKeeper();
        Check.no("sound(0, -1, 0)", x.sound(0, -1, 0));
        Check.no("sound(1, -1, 0)", x.sound(1, -1, 0));
    }

    static void soundOfByte4() {
        VoyageKeeper x = new VoyageKeeper();
        Check.no("sound(0, 4, 0)", x.sound(0, 4, 0));
        Check.no("sound(1, 4, 0)", x.sound(1, 4, 0));
    }

    static void soundOfMinus1() {
        Check.no("sound(0, 0, -1)", new VoyageKeeper().sound(0, 0, -1));
    }

    static void soundOf0() {
        Check.yes("sound(0, 0, 0)", new VoyageKeeper().sound(0, 0, 0));
    }

    static void soundOf255() {
        VoyageKeeper x = new VoyageKeeper();
        Check.yes("sound(1, 3, 255)", x.sound(1, 3, 255));
        x.second(1);
        x.replay(0, 0);
        Check.due("outSound(1, 3)", x.outSound(1, 3), 255);
    }

    static void soundOf256() {
        Check.no("sound(0, 0, 256)", new VoyageKeeper().sound(0, 0, 256));
    }

    static void soundsFarOff() {
        VoyageKeeper x = new VoyageKeeper();
        for (int far : Ship.FAR_OFF) {
            Check.no("channel " + far, x.sound(far, 0, 0));
            Check.no("byte " + far, x.sound(0, far, 0));
            Check.no("b " + far, x.sound(0, 0, far));
        }
    }

    static void soundWithPowerOff() {
        VoyageKeeper x = Ship.withoutPower();
        Check.throwsState("sound(0, 0, 0)", () -> x.sound(0, 0, 0));
    }

    static void wrongSoundWithPowerOff() {
        VoyageKeeper x = Ship.withoutPower();
        Check.throwsState("sound(2, 0, 0)", () -> x.sound(2, 0, 0));
        Check.throwsState("sound(0, 4, 0)", () -> x.sound(0, 4, 0));
        Check.throwsState("sound(0, 0, 256)", () -> x.sound(0, 0, 256));
    }

    // Promise 4: "A row of the canvas becomes so."

    /** Closes the second under way with the canvas as its picture, and loads it. */
    private static void loadShown(VoyageKeeper x) {
        int t = x.now();
        x.show();
        x.second(t + 1);
        x.replay(0, t);
    }

    static void eachRowIsPainted() {
        VoyageKeeper x = new VoyageKeeper();
        for (int row = 0; row < 8; row++) {
            Check.yes("paint row " + row, x.paint(row, 1000 + row));
        }
        loadShown(x);
        for (int row = 0; row < 8; row++) {
            Check.due("outRow(" + row + ")", x.outRow(row), 1000 + row);
        }
    }

    static void canvasIsAll0AtFirst() {
        VoyageKeeper x = new VoyageKeeper();
        loadShown(x);
        for (int row = 0; row < 8; row++) {
            Check.due("outRow(" + row + ")", x.outRow(row), 0);
        }
    }

    static void canvasStaysInTheNextSecond() {
        VoyageKeeper x = new VoyageKeeper();
        x.paint(2, 77);
        x.second(1);
        loadShown(x);
        Check.due("outRow(2)", x.outRow(2), 77);
    }

    static void canvasStaysInTheNextMinute() {
        VoyageKeeper x = new VoyageKeeper();
        x.paint(2, 77);
        x.show();
        x.second(10);
        loadShown(x);
        Check.due("outRow(2)", x.outRow(2), 77);
    }

    static void rowIsPaintedAgain() {
        VoyageKeeper x = new VoyageKeeper();
        x.paint(5, 0xffff);
        Check.yes("paint(5, 0x0102)", x.paint(5, 0x0102));
        loadShown(x);
        Check.due("outRow(5)", x.outRow(5), 0x0102);
    }

    // "false when there is no such row, or cells are not 0 .. 65535"

    static void paintOfRowMinus1() {
        Check.no("paint(-1, 0)", new VoyageKeeper().paint(-1, 0));
    }

    static void paintOfRow8() {
        Check.no("paint(8, 0)", new VoyageKeeper().paint(8, 0));
    }

    static void paintOfCellsMinus1() {
        Check.no("paint(0, -1)", new VoyageKeeper().paint(0, -1));
    }

    static void paintOfCells0() {
        VoyageKeeper x = new VoyageKeeper();
        x.paint(0, 5);
        Check.yes("paint(0, 0)", x.paint(0, 0));
        loadShown(x);
        Check.due("outRow(0)", x.outRow(0), 0);
    }

    static void paintOfCells65535() {
        VoyageKeeper x = new VoyageKeeper();
        Check.yes("paint(7, 65535)", x.paint(7, 65535));
        loadShown(x);
        Check.due("outRow(7)", x.outRow(7), 65535);
    }

    static void paintOfCells65536() {
        Check.no("paint(0, 65536)", new VoyageKeeper().paint(0, 65536));
    }

    static void paintsFarOff() {
        VoyageKeeper x = new VoyageKeeper();
        for (int far : Ship.FAR_OFF) {
            Check.no("row " + far, x.paint(far, 0));
        }
        Check.no("least cells", x.paint(0, Integer.MIN_VALUE));
        Check.no("most cells", x.paint(0, Integer.MAX_VALUE));
    }

    static void paintWithPowerOff() {
        VoyageKeeper x = Ship.withoutPower();
        Check.throwsState("paint(0, 0)", () -> x.paint(0, 0));
    }

    static void wrongPaintWithPowerOff() {
        VoyageKeeper x = Ship.withoutPower();
        Check.throwsState("paint(8, 0)", () -> x.paint(8, 0));
        Check.throwsState("paint(0, 65536)", () -> x.paint(0, 65536));
    }

    // Promise 5: "The canvas as it is now is the second's picture."

    static void paintAfterShowIsNotInThePicture() {
        VoyageKeeper x = new VoyageKeeper();
        x.paint(0, 5);
        Check.yes("show()", x.show());
        x.paint(0, 6);
        x.second(1);
        x.replay(0, 0);
        Check.due("outRow(0)", x.outRow(0), 5);
    }

    static void paintAfterShowStaysOnTheCanvas() {
        VoyageKeeper x = new VoyageKeeper();
        x.show();
        x.paint(0, 6);
        x.second(1);
        loadShown(x);
        Check.due("outRow(0)", x.outRow(0), 6);
    }

    static void blankCanvasIsAPicture() {
        VoyageKeeper x = new VoyageKeeper();
        x.paint(0, 5);
        x.show();
        x.second(1);
        x.paint(0, 0);
        Check.yes("show()", x.show());
        x.second(2);
        x.replay(0, 1);
        Check.due("outRow(0)", x.outRow(0), 0);
    }

    // "false when it has one"

    static void secondShow() {
        VoyageKeeper x = new VoyageKeeper();
        x.paint(0, 5);
        x.show();
        x.paint(0, 6);
        Check.no("show()", x.show());
        x.second(1);
        x.replay(0, 0);
        Check.due("outRow(0)", x.outRow(0), 5);
    }

    static void showInTheNextSecond() {
        VoyageKeeper x = new VoyageKeeper();
        x.show();
        x.second(1);
        Check.yes("show()", x.show());
    }

    static void showWithPowerOff() {
        VoyageKeeper x = Ship.withoutPower();
        Check.throwsState("show()", () -> x.show());
    }

    static void showOfASecondThatHadOneWithPowerOff() {
        VoyageKeeper x = new VoyageKeeper();
        x.show();
        x.cutAfter(0);
        x.second(1);
        Check.throwsState("show()", () -> x.show());
    }

    // Promise 6: "A contact becomes on, or off."

    private static int contactsOfClosing(VoyageKeeper x) {
        int t = x.now();
        x.second(t + 1);
        x.replay(0, t);
        return x.outContacts();
    }

    static void eachContactAlone() {
        for (int i = 0; i < 16; i++) {
            VoyageKeeper x = new VoyageKeeper();
            Check.yes("contact(" + i + ", true)", x.contact(i, true));
            Check.due("outContacts()", contactsOfClosing(x), 1 << i);
        }
    }

    static void allContacts() {
        VoyageKeeper x = new VoyageKeeper();
        for (int i = 0; i < 16; i++) {
            x.contact(i, true);
        }
        Check.due("outContacts()", contactsOfClosing(x), 65535);
    }

    static void contactOffAgain() {
        VoyageKeeper x = new VoyageKeeper();
        x.contact(0, true);
        x.contact(15, true);
        Check.yes("contact(0, false)", x.contact(0, false));
        Check.due("outContacts()", contactsOfClosing(x), 0x8000);
    }

    static void contactOnThatIsOn() {
        VoyageKeeper x = new VoyageKeeper();
        x.contact(5, true);
        Check.yes("contact(5, true)", x.contact(5, true));
        Check.due("outContacts()", contactsOfClosing(x), 32);
    }

    static void contactOffThatIsOff() {
        VoyageKeeper x = new VoyageKeeper();
        x.contact(4, true);
        Check.yes("contact(5, false)", x.contact(5, false));
        Check.due("outContacts()", contactsOfClosing(x), 16);
    }

    static void contactsStayInTheNextSecond() {
        VoyageKeeper x = new VoyageKeeper();
        x.contact(5, true);
        x.second(1);
        Check.due("outContacts()", contactsOfClosing(x), 32);
    }

    static void contactsAreKeptAsAtTheClosing() {
        VoyageKeeper x = new VoyageKeeper();
        x.contact(5, true);
        x.second(1);
        x.contact(5, false);
        x.replay(0, 0);
        Check.due("outContacts()", x.outContacts(), 32);
    }

    // "false when there is none such"

    static void contactMinus1() {
        VoyageKeeper x = new VoyageKeeper();
        Check.no("contact(-1, true)", x.contact(-1, true));
        Check.no("contact(-1, false)", x.contact(-1, false));
    }

    static void contact16() {
        VoyageKeeper x = new VoyageKeeper();
        Check.no("contact(16, true)", x.contact(16, true));
        Check.no("contact(16, false)", x.contact(16, false));
    }

    static void contactsFarOff() {
        VoyageKeeper x = new VoyageKeeper();
        for (int far : Ship.FAR_OFF) {
            Check.no("contact(" + far + ", true)", x.contact(far, true));
        }
    }

    static void contactWithPowerOff() {
        VoyageKeeper x = Ship.withoutPower();
        Check.throwsState("contact(0, true)", () -> x.contact(0, true));
    }

    static void wrongContactWithPowerOff() {
        VoyageKeeper x = Ship.withoutPower();
        Check.throwsState("contact(16, true)", () -> x.contact(16, true));
        Check.throwsState("contact(-1, false)", () -> x.contact(-1, false));
    }
}
