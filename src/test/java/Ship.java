/** Ways to bring an object into a state that several tests start from. */
final class Ship {
    /** Numbers that are no store, freeze, source, row or the like, whatever their bound. */
    static final int[] FAR_OFF = {Integer.MIN_VALUE, -1000, 1000, Integer.MAX_VALUE};
    /** A row of the picture that paintRuns(x, 64) paints. */
    static final int STRIPES = 0x9999;

    private Ship() {
    }

    /** An object with power off; now() is 1 and no store got second 0. */
    static VoyageKeeper withoutPower() {
        VoyageKeeper x = new VoyageKeeper();
        x.cutAfter(0);
        x.second(1);
        return x;
    }

    /** An object with the second t under way, and one page of second 0 in each store. */
    static VoyageKeeper at(int t) {
        VoyageKeeper x = new VoyageKeeper();
        x.second(t);
        return x;
    }

    /** An object that has closed so many empty seconds, from 0 on without a gap. */
    static VoyageKeeper afterSeconds(int seconds) {
        VoyageKeeper x = new VoyageKeeper();
        closeSeconds(x, seconds);
        return x;
    }

    static void closeSeconds(VoyageKeeper x, int seconds) {
        for (int i = 0; i < seconds; i++) {
            x.second(x.now() + 1);
        }
    }

    /** The first signs of ABCDEFGH, 1 .. 8 of them. */
    static long text(int signs) {
        return 0x4847464544434241L & -1L >>> 8 * (8 - signs);
    }

    /** Sentences of sources 0, 1, 2 and 3, with so many signs each. */
    static void say(VoyageKeeper x, int... signs) {
        for (int i = 0; i < signs.length; i++) {
            x.sentence(i, text(signs[i]));
        }
    }

    static void paintAll(VoyageKeeper x, int cells) {
        for (int row = 0; row < 8; row++) {
            x.paint(row, cells);
        }
    }

    /** The canvas gets so many runs, 1 .. 64: cells change from one to the next, then stay. */
    static void paintRuns(VoyageKeeper x, int runs) {
        for (int row = 0; row < 8; row++) {
            int cells = 0;
            for (int i = 0; i < 8; i++) {
                int at = Math.min(row * 8 + i, runs - 1);
                cells |= (at % 2 == 0 ? 1 : 2) << 2 * i;
            }
            x.paint(row, cells);
        }
    }

    static void showRuns(VoyageKeeper x, int runs) {
        paintRuns(x, runs);
        x.show();
    }

    /** What came in fills a bundle of 5 pages in each store, of 73 bytes in the main store. */
    static void fillFivePages(VoyageKeeper x) {
        say(x, 8, 8, 8, 8);
        x.sound(0, 0, 1);
        x.sound(1, 0, 1);
        showRuns(x, 64);
    }

    /** What came in fills a bundle of 3 pages in each store. */
    static void fillThreePages(VoyageKeeper x) {
        say(x, 8, 8, 8);
    }

    /** What came in fills a bundle of 2 pages in each store. */
    static void fillTwoPages(VoyageKeeper x) {
        say(x, 8, 1);
    }

    /** Closes the second under way; how many pages fewer are free in a store then. */
    static int pagesOfClosing(VoyageKeeper x, int store) {
        int before = x.free(store);
        x.second(x.now() + 1);
        return before - x.free(store);
    }

    static void failAll(VoyageKeeper x, boolean fails) {
        for (int store = 0; store < 3; store++) {
            x.fail(store, fails);
        }
    }
}
