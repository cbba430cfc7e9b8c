/** Promises 15 to 21: replay, what is loaded, and the search. */
public final class ReplayTest {
    private static final Check C = new Check();

    public static void main(String[] args) {
        nothingLoaded();
        loading();
        whatIsLoadedStays();
        soundOfTheThirdStore();
        rowsWithoutPictures();
        rowsOfChanges();
        rowsOfRunsAndTies();
        rowsOfAnotherMinute();
        likePictureIsNotTheBase();
        formerPictureOfAllStores();
        finding();
        C.end("ReplayTest");
    }

    private static void nothingLoaded() {
        VoyageKeeper x = new VoyageKeeper();
        x.paint(0, 9);
        x.show();
        x.sentence(2, 65);
        x.second(1);
        C.due("15 no such store", x.replay(3, 0), -1);
        C.due("15 store -1", x.replay(-1, 0), -1);
        C.due("15 no such second", x.replay(0, 1), -1);
        C.due("15 second -1", x.replay(0, -1), -1);
        C.due("16 nothing", x.outSentence(0), 0);
        C.due("17 nothing", x.outSource(0), -1);
        C.due("18 nothing", x.outSound(1, 3), 0);
        C.due("18 no such byte", x.outSound(0, 4), -1);
        C.due("19 nothing", x.outContacts(), 0);
        C.due("20 nothing", x.outRow(0), 0);
        C.due("20 no row -1", x.outRow(-1), -1);
        C.due("20 no row 8", x.outRow(8), -1);
    }

    private static void loading() {
        VoyageKeeper x = new VoyageKeeper();
        x.sentence(3, Ship.LONG_TEXT);
        x.sentence(1, 0x7e20);
        x.sound(0, 3, 200);
        x.sound(1, 0, 255);
        x.contact(0, true);
        x.contact(15, true);
        x.second(1);
        C.due("15 two sentences", x.replay(1, 0), 2);
        C.due("16 first", x.outSentence(0), Ship.LONG_TEXT);
        C.due("16 second", x.outSentence(1), 0x7e20);
        C.due("16 none at 2", x.outSentence(2), 0);
        C.due("16 none at -1", x.outSentence(-1), 0);
        C.due("16 none at 4", x.outSentence(4), 0);
        C.due("17 first", x.outSource(0), 3);
        C.due("17 second", x.outSource(1), 1);
        C.due("17 none at 2", x.outSource(2), -1);
        C.due("17 none at -1", x.outSource(-1), -1);
        C.due("17 none at 4", x.outSource(4), -1);
        C.due("18 channel 0", x.outSound(0, 3), 200);
        C.due("18 channel 1", x.outSound(1, 0), 255);
        C.due("18 where none came", x.outSound(1, 3), 0);
        C.due("18 no channel -1", x.outSound(-1, 0), -1);
        C.due("18 no channel 2", x.outSound(2, 0), -1);
        C.due("18 no byte -1", x.outSound(0, -1), -1);
        C.due("18 no byte 4", x.outSound(0, 4), -1);
        C.due("19 sum", x.outContacts(), 0x8001);
    }

    private static void whatIsLoadedStays() {
        VoyageKeeper x = new VoyageKeeper();
        x.sentence(3, 65);
        x.sound(0, 0, 8);
        x.contact(1, true);
        x.paint(0, 9);
        x.show();
        x.second(1);
        x.replay(0, 0);
        C.due("15 none such", x.replay(0, 7), -1);
        x.spoil(0, 0);
        C.due("15 unreadable", x.replay(0, 0), -1);
        for (int t = 2; t <= 60; t++) {
            x.second(t);
        }
        C.due("15 gone", x.replay(0, 0), -1);
        x.cutAfter(0);
        x.second(61);
        C.due("16 stays", x.outSentence(0), 65);
        C.due("17 stays", x.outSource(0), 3);
        C.due("18 stays", x.outSound(0, 0), 8);
        C.due("19 stays", x.outContacts(), 2);
        C.due("20 stays", x.outRow(0), 9);
        C.due("15 with power off", x.replay(0, 59), 0);
        C.due("16 replaced", x.outSentence(0), 0);
        C.due("18 replaced", x.outSound(0, 0), 0);
        C.due("20 replaced", x.outRow(0), 0);
    }

    private static void soundOfTheThirdStore() {
        VoyageKeeper x = new VoyageKeeper();
        x.sound(0, 1, 5);
        x.sound(1, 1, 6);
        x.second(1);
        x.replay(2, 0);
        C.due("18 channel 0 in store 2", x.outSound(0, 1), 5);
        C.due("18 channel 1 not in store 2", x.outSound(1, 1), 0);
        C.due("18 no byte all the same", x.outSound(1, 4), -1);
        x.replay(1, 0);
        C.due("18 channel 1 in store 1", x.outSound(1, 1), 6);
    }

    private static void rowsWithoutPictures() {
        VoyageKeeper x = new VoyageKeeper();
        x.paint(2, 77);
        x.second(3);
        x.show();
        x.second(5);
        x.second(9);
        x.second(10);
        x.second(11);
        x.replay(0, 0);
        C.due("20 none up to it: all 0", x.outRow(2), 0);
        x.replay(0, 5);
        C.due("20 a bundle without a picture changes nothing", x.outRow(2), 77);
        x.replay(0, 9);
        C.due("20 nor does the next", x.outRow(2), 77);
        x.replay(0, 10);
        C.due("20 a new minute begins with 0", x.outRow(2), 0);
        C.due("20 no such row", x.outRow(8), -1);
    }

    /** Shows a picture of 64 runs, then one with one cell more changed in each second. */
    private static VoyageKeeper chain(int seconds) {
        VoyageKeeper x = new VoyageKeeper();
        Ship.paintRuns(x, 64);
        for (int t = 0; t < seconds; t++) {
            x.paint(0, t);
            x.show();
            x.second(t + 1);
        }
        return x;
    }

    private static void rowsOfChanges() {
        VoyageKeeper x = chain(5);
        for (int t = 0; t < 5; t++) {
            C.due("15 second " + t, x.replay(0, t), 0);
            C.due("20 row 0 of second " + t, x.outRow(0), t);
        }
        // Second 0 has pages 0 and 1, and each other second one page more.
        x.spoil(0, 3);
        x.replay(0, 1);
        C.due("20 before the gap", x.outRow(0), 1);
        x.replay(0, 3);
        C.due("20 its base is unreadable", x.outRow(0), -1);
        C.due("20 nor any other row", x.outRow(7), -1);
        C.due("20 no such row", x.outRow(8), -1);
        x.replay(0, 4);
        C.due("20 nor what is coded against that", x.outRow(0), -1);
        x.replay(1, 4);
        C.due("20 another store knows it", x.outRow(0), 4);
        x.second(6);
        x.replay(0, 5);
        C.due("20 no picture: still none known", x.outRow(0), -1);
        Ship.paintAll(x, 0x5555);
        x.show();
        x.second(7);
        x.replay(0, 6);
        C.due("20 runs are known again", x.outRow(0), 0x5555);
        VoyageKeeper y = chain(3);
        y.spoil(0, 1);
        y.replay(0, 1);
        C.due("20 the first is unreadable", y.outRow(0), -1);
    }

    /** Of codings that take the same, the first is used, so that no other picture is needed. */
    private static void rowsOfRunsAndTies() {
        VoyageKeeper x = new VoyageKeeper();
        x.show();
        x.second(1);
        x.paint(7, 0xc000);
        x.show();
        x.second(2);
        x.spoil(0, 0);
        C.due("15 readable", x.replay(0, 1), 0);
        C.due("20 runs before changes", x.outRow(7), 0xc000);
        C.due("20 15 changes are less than raw", rowAfterChanges(0x3333, 0x0733), -1);
        C.due("20 raw before 16 changes", rowAfterChanges(0x3333, 0xf333), 0x9999 ^ 0x3333);
        C.due("20 raw before 17 changes", rowAfterChanges(0x3333, 0xd333), 0x9999 ^ 0x3333);
    }

    /** Row 0 of a picture whose first two rows are other than in the former one, which is spoiled. */
    private static int rowAfterChanges(int row0, int row1) {
        VoyageKeeper x = new VoyageKeeper();
        Ship.paintRuns(x, 64);
        x.show();
        x.second(1);
        x.paint(0, 0x9999 ^ row0);
        x.paint(1, 0x9999 ^ row1);
        x.show();
        x.second(2);
        x.spoil(0, 0);
        x.replay(0, 1);
        return x.outRow(0);
    }

    private static void rowsOfAnotherMinute() {
        VoyageKeeper x = new VoyageKeeper();
        x.second(9);
        Ship.paintRuns(x, 64);
        x.show();
        x.second(10);
        x.show();
        x.second(11);
        x.spoil(0, 1);
        x.spoil(0, 2);
        x.replay(0, 10);
        C.due("20 not coded against another minute", x.outRow(3), 0x9999);
    }

    private static void likePictureIsNotTheBase() {
        VoyageKeeper x = new VoyageKeeper();
        Ship.paintRuns(x, 64);
        x.show();
        x.second(1);
        x.show();
        x.second(2);
        x.show();
        x.second(3);
        x.spoil(0, 2);
        C.no("14 second 1 is unreadable", x.has(0, 1));
        x.replay(0, 2);
        C.due("20 the base is the picture of second 1", x.outRow(0), -1);
    }

    private static void formerPictureOfAllStores() {
        VoyageKeeper x = new VoyageKeeper();
        Ship.paintRuns(x, 64);
        for (int store = 0; store < 3; store++) {
            x.fail(store, true);
        }
        x.show();
        x.second(1);
        for (int store = 0; store < 3; store++) {
            x.fail(store, false);
        }
        x.show();
        x.second(2);
        C.due("7 coded against a picture that no store has", x.free(0), 39);
        x.replay(0, 1);
        C.due("20 which is not known", x.outRow(0), -1);
    }

    private static void finding() {
        VoyageKeeper x = new VoyageKeeper();
        x.sentence(0, 65);
        x.sentence(2, 65);
        x.second(4);
        x.sentence(1, 65);
        x.second(6);
        x.sentence(2, 65);
        x.second(8);
        C.due("21 from below 0", x.find(0, 2, Integer.MIN_VALUE), 0);
        C.due("21 from 0", x.find(0, 2, 0), 0);
        C.due("21 from 1", x.find(0, 2, 1), 6);
        C.due("21 from 6", x.find(0, 2, 6), 6);
        C.due("21 from 7", x.find(0, 2, 7), -1);
        C.due("21 from far away", x.find(0, 2, Integer.MAX_VALUE), -1);
        C.due("21 source 1", x.find(2, 1, 0), 4);
        C.due("21 source 3", x.find(0, 3, 0), -1);
        C.due("21 no source -1", x.find(0, -1, 0), -1);
        C.due("21 no source 4", x.find(0, 4, 0), -1);
        C.due("21 no store", x.find(3, 2, 0), -1);
        C.due("21 no store -1", x.find(-1, 2, 0), -1);
        x.spoil(0, 0);
        C.due("21 only readable ones", x.find(0, 2, 0), 6);
        C.due("21 another store", x.find(1, 2, 0), 0);
        C.due("16 nothing is loaded by it", x.outSentence(0), 0);
    }
}
