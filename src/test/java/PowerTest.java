/** Promises 23 and 24, and what a cut of power takes away. */
public final class PowerTest {
    private static final Check C = new Check();

    public static void main(String[] args) {
        arguments();
        counting();
        plannedAnew();
        bundleNotWhole();
        roomWasMadeBeforeTheCut();
        spoiledPagesAtACut();
        whatIsGone();
        pictureAfterACut();
        C.end("PowerTest");
    }

    private static void arguments() {
        VoyageKeeper x = new VoyageKeeper();
        C.no("23 n -1", x.cutAfter(-1));
        C.no("23 n 101", x.cutAfter(101));
        C.due("23 refused plans nothing", x.second(1), 3);
        C.no("24 power is on", x.start());
        C.yes("23 n 100", x.cutAfter(100));
        C.yes("23 n 0", x.cutAfter(0));
        C.due("23 cut in the next page", x.second(2), -1);
        C.no("23 power is off", x.cutAfter(5));
        C.no("23 wrong and off", x.cutAfter(-1));
        C.yes("24 start", x.start());
        C.no("24 again", x.start());
        C.due("23 a cut comes once", x.second(3), 3);
    }

    private static void counting() {
        VoyageKeeper x = new VoyageKeeper();
        x.second(1);
        x.cutAfter(100);
        for (int t = 2; t <= 34; t++) {
            C.due("23 99 pages", x.second(t), 3);
        }
        C.due("23 page 100 is written, 101 is not", x.second(35), -1);
        C.yes("23 page 100", x.has(0, 34));
        C.no("23 page 101", x.has(1, 34));
        C.no("23 behind it", x.has(2, 34));
        VoyageKeeper y = new VoyageKeeper();
        y.cutAfter(2);
        C.due("23 in the last store", y.second(1), -1);
        C.yes("23 store 0 got it", y.has(0, 0));
        C.yes("23 store 1 got it", y.has(1, 0));
        C.due("23 store 2 did not", y.kept(2, true), -1);
    }

    private static void plannedAnew() {
        VoyageKeeper x = new VoyageKeeper();
        x.cutAfter(1);
        x.cutAfter(6);
        C.due("23 from the later call on", x.second(1), 3);
        x.cutAfter(200);
        C.due("23 a refused call leaves the plan", x.second(2), 3);
        C.due("23 six pages were written", x.second(3), -1);
        C.no("23 the first store did not get it", x.has(0, 2));
    }

    private static void bundleNotWhole() {
        VoyageKeeper x = new VoyageKeeper();
        Ship.fillFivePages(x);
        x.cutAfter(8);
        C.due("7 cut", x.second(9), -1);
        C.due("8 is under way", x.now(), 9);
        C.yes("23 whole in store 0", x.has(0, 0));
        C.due("13 five pages", x.free(0), 35);
        C.due("13 pages of what is not whole are free", x.free(1), 20);
        C.due("12 it is not kept", x.kept(1, false), -1);
        C.due("26 nor unreadable", x.unreadable(1), 0);
        C.due("13 nothing in store 2", x.free(2), 10);
        C.due("15 replay with power off", x.replay(0, 0), 4);
        C.due("18 whole", x.outSound(1, 0), 1);
    }

    private static void roomWasMadeBeforeTheCut() {
        VoyageKeeper x = new VoyageKeeper();
        for (int t = 1; t <= 40; t++) {
            x.second(t);
        }
        Ship.fillTwoPages(x);
        x.cutAfter(3);
        C.due("7 cut in store 1", x.second(41), -1);
        C.due("12 store 0 took two out", x.kept(0, false), 2);
        C.due("12 store 0 got it", x.kept(0, true), 40);
        C.due("12 store 1 took two out", x.kept(1, false), 22);
        C.due("13 and they are free", x.free(1), 2);
        C.due("12 store 1 did not get it", x.kept(1, true), 39);
        C.due("12 store 2 took nothing out", x.kept(2, false), 30);
        C.due("13 store 2 is full", x.free(2), 0);
    }

    /** Pages that were written before the cut became readable; the one of the cut did not. */
    private static void spoiledPagesAtACut() {
        VoyageKeeper x = new VoyageKeeper();
        x.spoil(0, 0);
        x.spoil(0, 1);
        Ship.fillTwoPages(x);
        x.cutAfter(1);
        x.second(1);
        C.yes("25 page 0 was written", x.spoil(0, 0));
        C.no("25 page 1 was not", x.spoil(0, 1));
    }

    private static void whatIsGone() {
        VoyageKeeper x = new VoyageKeeper();
        x.second(1);
        x.freeze(1, 2);
        x.sentence(0, 65);
        x.sound(0, 0, 9);
        x.sound(1, 0, 9);
        x.contact(4, true);
        x.paint(0, 3);
        x.show();
        x.fail(2, true);
        x.cutAfter(0);
        C.due("7 cut", x.second(2), -1);
        C.yes("23 stores stay", x.has(0, 0));
        C.due("23 freezes stay", x.frozen(0, true), 3);
        x.start();
        C.due("24 nothing came in yet", x.sentence(1, 66), 1);
        C.yes("24 no picture yet", x.show());
        C.due("7 two stores, one has failed", x.second(3), 2);
        C.due("15 the second after the cut", x.replay(0, 2), 1);
        C.due("17 its own sentence", x.outSource(0), 1);
        C.due("18 sounds are gone", x.outSound(0, 0), 0);
        C.due("19 contacts are off", x.outContacts(), 0);
        C.due("20 the canvas is gone", x.outRow(0), 0);
        C.due("15 the second of the cut", x.replay(0, 1), -1);
    }

    private static void pictureAfterACut() {
        VoyageKeeper x = new VoyageKeeper();
        Ship.paintRuns(x, 64);
        x.show();
        x.second(1);
        Ship.paintRuns(x, 64);
        x.cutAfter(0);
        x.second(2);
        x.start();
        Ship.paintRuns(x, 64);
        x.show();
        x.second(3);
        C.due("7 the former picture is gone, so it is raw", x.free(0), 36);
        x.spoil(0, 0);
        x.replay(0, 2);
        C.due("20 and known by itself", x.outRow(0), 0x9999);
        x.show();
        x.second(4);
        C.due("7 a former one since power came", x.free(0), 35);
        VoyageKeeper y = new VoyageKeeper();
        Ship.paintRuns(y, 64);
        y.show();
        y.cutAfter(2);
        y.second(1);
        y.start();
        Ship.paintRuns(y, 64);
        y.show();
        y.second(2);
        C.due("7 the picture of the cut second is gone too", y.free(0), 36);
    }
}
