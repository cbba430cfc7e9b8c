/** Promises 12 to 14, 22, 25 and 26: what the stores keep, and their faults. */
public final class StoresTest {
    private static final Check C = new Check();

    public static void main(String[] args) {
        noSuchStore();
        keptAndFree();
        rolling();
        leastFreePages();
        failing();
        spoiling();
        writtenAgain();
        freedButNotWritten();
        unreadables();
        C.end("StoresTest");
    }

    private static void noSuchStore() {
        VoyageKeeper x = new VoyageKeeper();
        x.second(1);
        int[] none = {-1, 3, Integer.MAX_VALUE, Integer.MIN_VALUE};
        for (int store : none) {
            C.due("12 kept first", x.kept(store, false), -1);
            C.due("12 kept last", x.kept(store, true), -1);
            C.due("13 free", x.free(store), -1);
            C.no("14 has", x.has(store, 0));
            C.no("22 fails", x.fail(store, true));
            C.no("22 works", x.fail(store, false));
            C.no("25 spoil", x.spoil(store, 0));
            C.due("26 unreadable", x.unreadable(store), -1);
        }
    }

    private static void keptAndFree() {
        VoyageKeeper x = new VoyageKeeper();
        x.second(5);
        x.second(8);
        C.due("12 earliest", x.kept(1, false), 0);
        C.due("12 latest", x.kept(1, true), 5);
        C.due("13 one page each", x.free(1), 18);
        C.yes("14 second 0", x.has(1, 0));
        C.yes("14 second 5", x.has(1, 5));
        C.no("14 between", x.has(1, 3));
        C.no("14 under way", x.has(1, 8));
        C.no("14 second -1", x.has(1, -1));
        C.no("14 far away", x.has(1, Integer.MAX_VALUE));
        x.spoil(1, 0);
        x.spoil(1, 1);
        C.due("12 unreadable is kept, first", x.kept(1, false), 0);
        C.due("12 unreadable is kept, last", x.kept(1, true), 5);
        C.no("14 unreadable", x.has(1, 5));
        C.due("13 spoiled pages are not free", x.free(1), 18);
    }

    private static void rolling() {
        VoyageKeeper x = new VoyageKeeper();
        for (int t = 1; t <= 10; t++) {
            x.second(t);
        }
        C.due("13 full", x.free(2), 0);
        C.due("12 all ten", x.kept(2, false), 0);
        Ship.fillTwoPages(x);
        x.second(11);
        C.due("12 two went for two pages", x.kept(2, false), 2);
        C.due("13 full again", x.free(2), 0);
        Ship.fillFivePages(x);
        x.second(12);
        C.due("12 five went", x.kept(2, false), 7);
        x.second(13);
        x.second(14);
        x.second(15);
        C.due("12 the one of two pages is next", x.kept(2, false), 10);
        x.second(16);
        C.due("13 it left one page over", x.free(2), 1);
        C.due("12 the latest", x.kept(2, true), 15);
    }

    /** Pages of seconds that went are used again, the least first, which spoiling shows. */
    private static void leastFreePages() {
        VoyageKeeper x = new VoyageKeeper();
        Ship.fillTwoPages(x);
        x.second(1);
        for (int t = 2; t <= 9; t++) {
            x.second(t);
        }
        x.second(10);
        // Second 0 with pages 0 and 1 has gone; second 9 is in page 0, and page 1 is free.
        C.due("13 one is free", x.free(2), 1);
        C.yes("25 page 0", x.spoil(2, 0));
        C.no("7 second 9 was written there", x.has(2, 9));
        C.yes("7 second 1 was not", x.has(2, 1));
        C.yes("25 a free page", x.spoil(2, 1));
        C.due("26 a free page is of no bundle", x.unreadable(2), 1);
        x.second(11);
        C.yes("7 written, page 1 is readable", x.has(2, 10));
        x.spoil(2, 9);
        C.no("7 second 8 was in the last page", x.has(2, 8));
    }

    private static void failing() {
        VoyageKeeper x = new VoyageKeeper();
        x.second(1);
        C.no("22 works already", x.fail(1, false));
        C.yes("22 fails", x.fail(1, true));
        C.no("22 has failed already", x.fail(1, true));
        C.due("7 two stores", x.second(2), 2);
        C.no("22 did not get it", x.has(1, 1));
        C.yes("22 what it has stays readable", x.has(1, 0));
        C.due("22 and can be loaded", x.replay(1, 0), 0);
        C.due("22 its pages stay", x.free(1), 19);
        C.yes("22 works again", x.fail(1, false));
        C.due("7 three stores", x.second(3), 3);
        C.yes("22 gets the next", x.has(1, 2));
        VoyageKeeper off = Ship.withoutPower();
        C.yes("22 with power off", off.fail(2, true));
        C.no("22 no change with power off", off.fail(2, true));
    }

    private static void spoiling() {
        VoyageKeeper x = new VoyageKeeper();
        C.no("25 page -1", x.spoil(0, -1));
        C.no("25 page 40", x.spoil(0, 40));
        C.no("25 page 20", x.spoil(1, 20));
        C.no("25 page 10", x.spoil(2, 10));
        C.yes("25 page 39", x.spoil(0, 39));
        C.yes("25 page 19", x.spoil(1, 19));
        C.yes("25 page 9", x.spoil(2, 9));
        C.no("25 it was not readable", x.spoil(2, 9));
        VoyageKeeper off = Ship.withoutPower();
        C.yes("25 with power off", off.spoil(0, 0));
        C.no("25 again with power off", off.spoil(0, 0));
    }

    private static void writtenAgain() {
        VoyageKeeper x = new VoyageKeeper();
        x.spoil(2, 0);
        x.second(1);
        C.yes("25 readable when written", x.has(2, 0));
        C.yes("25 can be spoiled again", x.spoil(2, 0));
        for (int t = 2; t <= 11; t++) {
            x.second(t);
        }
        C.due("25 second 0 went", x.kept(2, false), 1);
        C.yes("25 page 0 is of second 10, and readable", x.has(2, 10));
        C.due("26 none", x.unreadable(2), 0);
    }

    /** A page stays unreadable when its bundle is taken out, until it is written. */
    private static void freedButNotWritten() {
        VoyageKeeper x = new VoyageKeeper();
        Ship.fillTwoPages(x);
        x.second(1);
        x.spoil(2, 1);
        for (int t = 2; t <= 10; t++) {
            x.second(t);
        }
        C.due("13 page 1 is free", x.free(2), 1);
        C.no("25 and still not readable", x.spoil(2, 1));
        x.second(11);
        C.yes("25 written again", x.has(2, 10));
        C.yes("25 so it can be spoiled", x.spoil(2, 1));
        C.no("25 it was second 10's", x.has(2, 10));
    }

    private static void unreadables() {
        VoyageKeeper x = new VoyageKeeper();
        Ship.fillFivePages(x);
        x.second(1);
        x.second(2);
        C.due("26 none", x.unreadable(0), 0);
        x.spoil(0, 1);
        x.spoil(0, 4);
        C.due("26 a bundle counts once", x.unreadable(0), 1);
        C.no("14 one page is enough", x.has(0, 0));
        C.yes("14 the other is readable", x.has(0, 1));
        x.spoil(0, 5);
        C.due("26 two", x.unreadable(0), 2);
        C.due("26 other stores", x.unreadable(1), 0);
        x.spoil(0, 30);
        C.due("26 a free page is of none", x.unreadable(0), 2);
    }
}
