/** Promises 1 to 8: what comes in, and the closing of a second. */
public final class RecordingTest {
    private static final Check C = new Check();

    public static void main(String[] args) {
        newObject();
        sentences();
        sentenceTexts();
        sounds();
        painting();
        showing();
        contacts();
        secondRefused();
        secondCountsStores();
        bytesBecomePages();
        codingTakesTheLeast();
        C.end("RecordingTest");
    }

    private static void newObject() {
        VoyageKeeper x = new VoyageKeeper();
        C.due("1 now", x.now(), 0);
        C.due("1 free main", x.free(0), 40);
        C.due("1 free capsule 1", x.free(1), 20);
        C.due("1 free capsule 2", x.free(2), 10);
        for (int store = 0; store < 3; store++) {
            C.due("1 kept first", x.kept(store, false), -1);
            C.due("1 kept last", x.kept(store, true), -1);
            C.no("1 has", x.has(store, 0));
            C.due("1 unreadable", x.unreadable(store), 0);
            C.due("1 frozen", x.frozen(store, false), -1);
        }
        C.no("1 power is on", x.start());
        C.due("1 outContacts", x.outContacts(), 0);
        C.due("NONE", VoyageKeeper.NONE, -1);
    }

    private static void sentences() {
        VoyageKeeper x = new VoyageKeeper();
        C.due("2 source below 0", x.sentence(-1, 65), -1);
        C.due("2 source above 3", x.sentence(4, 65), -1);
        C.due("2 first", x.sentence(0, 65), 1);
        C.due("2 second", x.sentence(3, 66), 2);
        C.due("2 the same again", x.sentence(3, 66), 3);
        C.due("2 refused counts not", x.sentence(3, 0), -1);
        C.due("2 fourth", x.sentence(1, 67), 4);
        C.due("2 fifth", x.sentence(1, 67), -1);
        x.second(1);
        C.due("2 a new second begins at one", x.sentence(0, 65), 1);
        C.due("2 kept in order", x.replay(0, 0), 4);
        C.due("2 last text", x.outSentence(3), 67);
        VoyageKeeper off = Ship.withoutPower();
        C.throwsState("2 off", () -> off.sentence(0, 65));
        C.throwsState("2 off and wrong", () -> off.sentence(9, 0));
    }

    private static void sentenceTexts() {
        long[] wrong = {0L, 31L, 127L, 255L, 0x4100L, 0x410041L, 0x1f41L, 0x7f41L, 0x8041L,
            0x4100000000000000L, 0x4100202020202041L, 0x1f20202020202041L, 0x7f20202020202041L,
            0xff20202020202041L, -1L, Long.MIN_VALUE, Long.MAX_VALUE};
        VoyageKeeper x = new VoyageKeeper();
        for (long text : wrong) {
            C.due("2 no text " + Long.toHexString(text), x.sentence(0, text), -1);
        }
        long[] right = {32L, 126L, 0x207eL, 0x7e7e7e7e7e7e7e7eL};
        for (int i = 0; i < right.length; i++) {
            C.due("2 text " + Long.toHexString(right[i]), x.sentence(0, right[i]), i + 1);
        }
    }

    private static void sounds() {
        VoyageKeeper x = new VoyageKeeper();
        C.no("3 channel -1", x.sound(-1, 0, 0));
        C.no("3 channel 2", x.sound(2, 0, 0));
        C.no("3 byte -1", x.sound(0, -1, 0));
        C.no("3 byte 4", x.sound(0, 4, 0));
        C.no("3 b -1", x.sound(0, 0, -1));
        C.no("3 b 256", x.sound(1, 0, 256));
        x.second(1);
        C.yes("3 byte of 255", x.sound(0, 3, 255));
        C.yes("3 byte of 0", x.sound(0, 3, 0));
        C.yes("3 the later counts", x.sound(0, 0, 7));
        C.yes("3 the other channel", x.sound(1, 0, 9));
        x.second(2);
        x.second(3);
        x.replay(0, 1);
        C.due("3 overwritten", x.outSound(0, 3), 0);
        C.due("3 channel 0", x.outSound(0, 0), 7);
        C.due("3 channel 1", x.outSound(1, 0), 9);
        x.replay(0, 2);
        C.due("3 gone in the next second", x.outSound(0, 0), 0);
        VoyageKeeper off = Ship.withoutPower();
        C.throwsState("3 off", () -> off.sound(0, 0, 0));
        C.throwsState("3 off and wrong", () -> off.sound(5, 0, 0));
    }

    private static void painting() {
        VoyageKeeper x = new VoyageKeeper();
        C.no("4 row -1", x.paint(-1, 0));
        C.no("4 row 8", x.paint(8, 0));
        C.no("4 cells -1", x.paint(0, -1));
        C.no("4 cells 65536", x.paint(0, 65536));
        C.yes("4 first row", x.paint(0, 65535));
        C.yes("4 last row", x.paint(7, 0x1234));
        C.yes("4 painted again", x.paint(0, 0xabcd));
        x.second(1);
        x.show();
        x.second(2);
        x.replay(0, 1);
        C.due("4 the canvas stays", x.outRow(0), 0xabcd);
        C.due("4 last row kept", x.outRow(7), 0x1234);
        C.due("4 other rows are 0", x.outRow(3), 0);
        VoyageKeeper off = Ship.withoutPower();
        C.throwsState("4 off", () -> off.paint(0, 0));
        C.throwsState("4 off and wrong", () -> off.paint(8, 0));
    }

    private static void showing() {
        VoyageKeeper x = new VoyageKeeper();
        x.paint(0, 5);
        C.yes("5 shown", x.show());
        x.paint(0, 6);
        C.no("5 the second has one", x.show());
        x.second(1);
        C.yes("5 the next second has none", x.show());
        x.second(2);
        x.replay(0, 0);
        C.due("5 as it was when shown", x.outRow(0), 5);
        x.replay(0, 1);
        C.due("5 as it was later", x.outRow(0), 6);
        VoyageKeeper off = Ship.withoutPower();
        C.throwsState("5 off", () -> off.show());
    }

    private static void contacts() {
        VoyageKeeper x = new VoyageKeeper();
        C.no("6 contact -1", x.contact(-1, true));
        C.no("6 contact 16", x.contact(16, true));
        C.yes("6 contact 0", x.contact(0, true));
        C.yes("6 contact 15", x.contact(15, true));
        C.yes("6 on again", x.contact(15, true));
        x.second(1);
        C.yes("6 off", x.contact(0, false));
        C.yes("6 off again", x.contact(0, false));
        x.second(2);
        x.replay(0, 0);
        C.due("6 as at the closing", x.outContacts(), 0x8001);
        x.replay(0, 1);
        C.due("6 they stay", x.outContacts(), 0x8000);
        VoyageKeeper off = Ship.withoutPower();
        C.throwsState("6 off", () -> off.contact(0, true));
        C.throwsState("6 off and wrong", () -> off.contact(16, true));
    }

    private static void secondRefused() {
        VoyageKeeper x = new VoyageKeeper();
        C.throwsArgument("7 not above 0", () -> x.second(0));
        C.throwsArgument("7 negative", () -> x.second(-1));
        C.throwsArgument("7 above 9999", () -> x.second(10000));
        C.throwsArgument("7 far above", () -> x.second(Integer.MAX_VALUE));
        C.due("8 a throw changes nothing", x.now(), 0);
        C.due("7 a throw writes nothing", x.free(0), 40);
        C.due("7 to 7", x.second(7), 3);
        C.throwsArgument("7 the same", () -> x.second(7));
        C.due("8 now", x.now(), 7);
        C.due("7 to 9999", x.second(9999), 3);
        C.due("8 the last", x.now(), 9999);
        C.throwsArgument("7 nothing behind it", () -> x.second(9999));
        VoyageKeeper off = Ship.withoutPower();
        C.throwsState("7 off", () -> off.second(5));
        C.throwsState("7 off comes first", () -> off.second(0));
        C.due("8 now with power off", off.now(), 1);
    }

    private static void secondCountsStores() {
        VoyageKeeper x = new VoyageKeeper();
        C.due("7 all", x.second(1), 3);
        x.fail(0, true);
        C.due("7 the capsules", x.second(2), 2);
        x.fail(1, true);
        x.fail(2, true);
        x.cutAfter(0);
        C.due("7 none, and no page to cut in", x.second(3), 0);
        C.due("8 goes on all the same", x.now(), 3);
        C.no("7 power is still on", x.start());
        x.fail(2, false);
        C.due("7 the cut comes with the next page", x.second(4), -1);
        C.due("8 the new second is under way after a cut", x.now(), 4);
    }

    private static int pagesOfClosing(VoyageKeeper x, int store) {
        int before = x.free(store);
        x.second(x.now() + 1);
        return before - x.free(store);
    }

    private static void bytesBecomePages() {
        VoyageKeeper x = new VoyageKeeper();
        C.due("7 empty", pagesOfClosing(x, 0), 1);
        x.sentence(0, Ship.LONG_TEXT);
        C.due("7 16 bytes", pagesOfClosing(x, 0), 1);
        x.sentence(0, Ship.LONG_TEXT);
        x.sentence(0, 65);
        x.sentence(0, 65);
        C.due("7 22 bytes", pagesOfClosing(x, 0), 2);
        x.sound(0, 0, 0);
        x.sound(0, 1, 0);
        x.sound(1, 2, 0);
        C.due("7 a byte of 0 came: 16 bytes", pagesOfClosing(x, 0), 1);
        x.sound(0, 0, 0);
        x.sound(1, 2, 0);
        x.sentence(0, 65);
        C.due("7 19 bytes", pagesOfClosing(x, 0), 2);
        x.sound(0, 0, 0);
        x.sound(1, 2, 0);
        x.sentence(0, 65);
        C.due("7 channel 1 is not in store 2: 14 bytes", pagesOfClosing(x, 2), 1);
        x.sound(0, 0, 0);
        x.sentence(0, 0x41414141);
        C.due("7 17 bytes", pagesOfClosing(x, 0), 2);
        VoyageKeeper y = new VoyageKeeper();
        Ship.fillFivePages(y);
        y.second(1);
        C.due("7 the most, main", y.free(0), 35);
        C.due("7 the most, capsule 1", y.free(1), 15);
        C.due("7 the most, capsule 2", y.free(2), 5);
    }

    private static void codingTakesTheLeast() {
        VoyageKeeper x = new VoyageKeeper();
        Ship.paintRuns(x, 9);
        x.show();
        C.due("7 9 runs", pagesOfClosing(x, 0), 1);
        x.second(10);
        Ship.paintRuns(x, 10);
        x.show();
        C.due("7 10 runs", pagesOfClosing(x, 0), 2);
        x.second(20);
        Ship.paintRuns(x, 64);
        x.show();
        C.due("7 raw", pagesOfClosing(x, 0), 2);
        x.show();
        C.due("7 no changes", pagesOfClosing(x, 0), 1);
        x.second(29);
        x.show();
        C.due("7 no changes later in the minute", pagesOfClosing(x, 0), 1);
        x.show();
        C.due("7 no former picture in a new minute", pagesOfClosing(x, 0), 2);
    }
}
