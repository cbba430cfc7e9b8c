import java.util.ArrayList;
import java.util.List;

/**
 * "a call that throws, or is refused, changes nothing": two objects are brought into the same state, one of
 * them gets such a call, and all that they answer from then on is the same.
 */
public final class RefusalTest {
    /** A call on an object. */
    private interface Call {
        Object on(VoyageKeeper x);
    }

    /** A way to bring a new object into a state. */
    private interface State {
        VoyageKeeper make();
    }

    public static void main(String[] args) {
        Check.runCases(RefusalTest.class);
    }

    /** The second 5 is under way and has all that can come in; much is kept, and a cut is planned. */
    private static VoyageKeeper busy() {
        VoyageKeeper x = new VoyageKeeper();
        Ship.fillFivePages(x);
        x.second(1);
        x.paint(3, 0x1234);
        x.show();
        x.contact(2, true);
        x.second(2);
        x.fail(1, true);
        x.sentence(1, 66);
        x.second(5);
        x.freeze(4, 1);
        x.freeze(0, 0);
        x.spoil(0, 1);
        x.spoil(2, 7);
        x.replay(2, 1);
        Ship.say(x, 1, 2, 3, 4);
        x.sound(0, 1, 7);
        x.paint(4, 0x4321);
        x.show();
        x.paint(5, 0x00ff);
        x.contact(9, true);
        x.cutAfter(30);
        return x;
    }

    private static VoyageKeeper busyWithThreeFreezes() {
        VoyageKeeper x = busy();
        x.freeze(0, 0);
        return x;
    }

    /** Power was cut in the second page of second 5 in the main store; second 7 will be under way. */
    private static VoyageKeeper busyWithoutPower() {
        VoyageKeeper x = busy();
        x.cutAfter(1);
        x.second(7);
        return x;
    }

    private static String answer(VoyageKeeper x, Call call) {
        try {
            return String.valueOf(call.on(x));
        } catch (RuntimeException e) {
            return e.getClass().getSimpleName();
        }
    }

    private static void addLoaded(List<Object> seen, VoyageKeeper x) {
        for (int k = 0; k < 4; k++) {
            seen.add(x.outSentence(k));
            seen.add(x.outSource(k));
            seen.add(x.outSound(0, k));
            seen.add(x.outSound(1, k));
        }
        for (int row = 0; row < 8; row++) {
            seen.add(x.outRow(row));
        }
        seen.add(x.outContacts());
    }

    private static void addStores(List<Object> seen, VoyageKeeper x) {
        for (int store = 0; store < 3; store++) {
            seen.add(x.kept(store, false));
            seen.add(x.kept(store, true));
            seen.add(x.free(store));
            seen.add(x.unreadable(store));
            for (int t = 0; t < 8; t++) {
                seen.add(x.has(store, t));
            }
        }
    }

    /** What the second under way and then the canvas turn out to be. */
    private static void addSecondUnderWay(List<Object> seen, VoyageKeeper x) {
        for (int i = 0; i < 2; i++) {
            int t = x.now();
            seen.add(x.sentence(0, 90));
            seen.add(i == 0 || x.show());
            seen.add(x.second(t + 1));
            for (int store = 0; store < 3; store += 2) {
                seen.add(x.free(store));
                seen.add(x.replay(store, t));
                addLoaded(seen, x);
            }
        }
    }

    private static void addFailures(List<Object> seen, VoyageKeeper x) {
        for (int store = 0; store < 3; store++) {
            seen.add(x.fail(store, false));
        }
    }

    /** All that an object shows of its state, in fewer calls than it may be used for. */
    private static List<Object> answersFromNowOn(VoyageKeeper x) {
        List<Object> seen = new ArrayList<>();
        seen.add(x.now());
        for (int number = 0; number < 3; number++) {
            seen.add(x.frozen(number, false));
            seen.add(x.frozen(number, true));
        }
        addStores(seen, x);
        addLoaded(seen, x);
        seen.add(x.start());
        addSecondUnderWay(seen, x);
        addFailures(seen, x);
        for (int i = 0; i < 45; i++) {
            seen.add(answer(x, y -> y.second(y.now() + 1)));
        }
        seen.add(x.start());
        for (int i = 0; i < 3; i++) {
            seen.add(x.freeze(0, 0));
        }
        addStores(seen, x);
        for (int page = 0; page < 40; page++) {
            seen.add(x.spoil(0, page));
            seen.add(x.spoil(2, page));
        }
        return seen;
    }

    private static void isRefused(State state, String due, Call call) {
        VoyageKeeper x = state.make();
        String got = answer(x, call);
        Check.yes("answered " + got + ", due is " + due, got.equals(due));
        List<Object> seen = answersFromNowOn(x);
        List<Object> dueThen = answersFromNowOn(state.make());
        Check.yes("then answered " + seen + ", due is " + dueThen, seen.equals(dueThen));
    }

    private static void isSeen(State state, Call call) {
        VoyageKeeper x = state.make();
        call.on(x);
        Check.no("not seen", answersFromNowOn(x).equals(answersFromNowOn(state.make())));
    }

    private static void throwsWithoutPower(Call call) {
        isRefused(RefusalTest::busyWithoutPower, "IllegalStateException", call);
    }

    private static void isNone(Call call) {
        isRefused(RefusalTest::busy, "-1", call);
    }

    private static void isFalse(Call call) {
        isRefused(RefusalTest::busy, "false", call);
    }

    // The comparison itself: each change that a call makes is seen by it.

    static void changesBySentenceAreSeen() {
        isSeen(VoyageKeeper::new, x -> x.sentence(0, 65));
    }

    static void changesBySoundAreSeen() {
        isSeen(RefusalTest::busy, x -> x.sound(0, 1, 8));
        isSeen(RefusalTest::nearlyFullPage, x -> x.sound(1, 0, 0));
    }

    static void changesByPaintAreSeen() {
        isSeen(RefusalTest::busy, x -> x.paint(0, 9));
    }

    static void changesByShowAreSeen() {
        isSeen(RefusalTest::withPaintedCanvas, x -> x.show());
    }

    private static VoyageKeeper withPaintedCanvas() {
        VoyageKeeper x = new VoyageKeeper();
        x.paint(0, 1);
        return x;
    }

    static void changesByContactAreSeen() {
        isSeen(RefusalTest::busy, x -> x.contact(2, false));
    }

    static void changesBySecondAreSeen() {
        isSeen(RefusalTest::busy, x -> x.second(6));
    }

    static void changesByFreezeAreSeen() {
        isSeen(RefusalTest::busy, x -> x.freeze(0, 0));
    }

    static void changesByReleaseAreSeen() {
        isSeen(RefusalTest::busy, x -> x.release(0));
    }

    static void changesByReplayAreSeen() {
        isSeen(RefusalTest::busy, x -> x.replay(2, 2));
    }

    static void changesByFailAreSeen() {
        isSeen(RefusalTest::busy, x -> x.fail(1, false));
        isSeen(RefusalTest::busy, x -> x.fail(2, true));
    }

    static void changesByCutAfterAreSeen() {
        isSeen(RefusalTest::busy, x -> x.cutAfter(29));
        isSeen(VoyageKeeper::new, x -> x.cutAfter(100));
    }

    static void changesByStartAreSeen() {
        isSeen(RefusalTest::busyWithoutPower, x -> x.start());
    }

    static void changesBySpoilAreSeen() {
        isSeen(RefusalTest::busy, x -> x.spoil(0, 0));
        isSeen(RefusalTest::busy, x -> x.spoil(2, 0));
    }

    // Calls that throw

    static void sentenceWithoutPower() {
        throwsWithoutPower(x -> x.sentence(0, 65));
    }

    static void soundWithoutPower() {
        throwsWithoutPower(x -> x.sound(0, 0, 1));
    }

    static void paintWithoutPower() {
        throwsWithoutPower(x -> x.paint(0, 9));
    }

    static void showWithoutPower() {
        throwsWithoutPower(x -> x.show());
    }

    static void contactWithoutPower() {
        throwsWithoutPower(x -> x.contact(0, true));
    }

    static void secondWithoutPower() {
        throwsWithoutPower(x -> x.second(8));
    }

    static void freezeWithoutPower() {
        throwsWithoutPower(x -> x.freeze(0, 0));
    }

    static void releaseWithoutPower() {
        throwsWithoutPower(x -> x.release(0));
    }

    static void secondTooSmall() {
        isRefused(RefusalTest::busy, "IllegalArgumentException", x -> x.second(5));
        isRefused(RefusalTest::busy, "IllegalArgumentException", x -> x.second(0));
    }

    static void secondTooLarge() {
        isRefused(RefusalTest::busy, "IllegalArgumentException", x -> x.second(10000));
    }

    // Calls that are refused

    static void sentenceOfNoSource() {
        isNone(x -> x.sentence(-1, 65));
        isNone(x -> x.sentence(4, 65));
        isRefused(VoyageKeeper::new, "-1", x -> x.sentence(4, 65));
    }

    static void sentenceOfNoText() {
        isRefused(VoyageKeeper::new, "-1", x -> x.sentence(0, 0));
        isRefused(VoyageKeeper::new, "-1", x -> x.sentence(0, 0x4100));
        isRefused(VoyageKeeper::new, "-1", x -> x.sentence(0, 0x410041));
        isRefused(VoyageKeeper::new, "-1", x -> x.sentence(0, 127));
    }

    static void sentenceWhenThereAre4() {
        isNone(x -> x.sentence(0, 65));
    }

    static void soundOfNoChannel() {
        isFalse(x -> x.sound(-1, 0, 1));
        isFalse(x -> x.sound(2, 0, 1));
    }

    static void soundOfNoByte() {
        isFalse(x -> x.sound(0, 4, 1));
        isFalse(x -> x.sound(1, -1, 1));
        isRefused(VoyageKeeper::new, "false", x -> x.sound(1, 4, 1));
    }

    static void soundOfNoValue() {
        isFalse(x -> x.sound(0, 1, 256));
        isFalse(x -> x.sound(1, 0, -1));
        isRefused(RefusalTest::nearlyFullPage, "false", x -> x.sound(0, 0, 256));
        isRefused(RefusalTest::nearlyFullPage, "false", x -> x.sound(0, 4, 0));
    }

    /** With one channel more, the second under way would take two pages. */
    private static VoyageKeeper nearlyFullPage() {
        VoyageKeeper x = new VoyageKeeper();
        Ship.say(x, 5);
        return x;
    }

    static void paintOfNoRow() {
        isFalse(x -> x.paint(-1, 9));
        isFalse(x -> x.paint(8, 9));
    }

    static void paintOfNoCells() {
        isFalse(x -> x.paint(0, -1));
        isFalse(x -> x.paint(0, 65536));
    }

    static void showWhenTheSecondHasOne() {
        isFalse(x -> x.show());
    }

    static void contactOfNoNumber() {
        isFalse(x -> x.contact(-1, true));
        isFalse(x -> x.contact(16, true));
        isFalse(x -> x.contact(18, false));
    }

    static void freezeOfNoStretch() {
        isNone(x -> x.freeze(-1, 0));
        isNone(x -> x.freeze(10, 0));
        isNone(x -> x.freeze(0, -1));
        isNone(x -> x.freeze(0, 10));
    }

    static void freezeOfTooManyPages() {
        isNone(x -> x.freeze(0, 3));
        isNone(x -> x.freeze(9, 9));
    }

    static void freezeWhenThereAre3() {
        isRefused(RefusalTest::busyWithThreeFreezes, "-1", x -> x.freeze(0, 0));
    }

    static void releaseOfNoFreeze() {
        isFalse(x -> x.release(-1));
        isFalse(x -> x.release(2));
        isFalse(x -> x.release(3));
    }

    static void replayOfNoBundle() {
        isNone(x -> x.replay(3, 0));
        isNone(x -> x.replay(0, 4));
        isNone(x -> x.replay(0, 5));
        isNone(x -> x.replay(0, 0));
        isNone(x -> x.replay(1, 2));
    }

    static void failWithoutAChange() {
        isFalse(x -> x.fail(1, true));
        isFalse(x -> x.fail(0, false));
    }

    static void failOfNoStore() {
        isFalse(x -> x.fail(-1, true));
        isFalse(x -> x.fail(3, true));
    }

    static void cutAfterOfNoNumber() {
        isFalse(x -> x.cutAfter(-1));
        isFalse(x -> x.cutAfter(101));
    }

    static void cutAfterWithoutPower() {
        isRefused(RefusalTest::busyWithoutPower, "false", x -> x.cutAfter(0));
    }

    static void startWithPowerOn() {
        isFalse(x -> x.start());
    }

    static void spoilOfNoPage() {
        isFalse(x -> x.spoil(3, 0));
        isFalse(x -> x.spoil(0, -1));
        isFalse(x -> x.spoil(0, 40));
        isFalse(x -> x.spoil(2, 10));
    }

    static void spoilOfAPageThatIsNotReadable() {
        isFalse(x -> x.spoil(0, 1));
        isFalse(x -> x.spoil(2, 7));
    }

    // Calls that only tell

    private static void tellsOnly(Call call) {
        String due = answer(busy(), call);
        isRefused(RefusalTest::busy, due, call);
        due = answer(busyWithoutPower(), call);
        isRefused(RefusalTest::busyWithoutPower, due, call);
    }

    static void questionsOfTheStores() {
        tellsOnly(x -> x.kept(0, true));
        tellsOnly(x -> x.free(0));
        tellsOnly(x -> x.has(0, 0));
        tellsOnly(x -> x.find(0, 1, 0));
        tellsOnly(x -> x.unreadable(0));
    }

    static void questionsOfTheSecondAndTheFreezes() {
        tellsOnly(x -> x.now());
        tellsOnly(x -> x.frozen(0, true));
        tellsOnly(x -> x.frozen(2, true));
    }

    static void questionsOfWhatIsLoaded() {
        tellsOnly(x -> x.outSentence(0));
        tellsOnly(x -> x.outSource(4));
        tellsOnly(x -> x.outSound(0, 4));
        tellsOnly(x -> x.outContacts());
        tellsOnly(x -> x.outRow(8));
    }
}
