/** Ways to bring an object into a state that several tests start from. */
final class Ship {
    /** Eight signs. */
    static final long LONG_TEXT = 0x2020202020202041L;

    private Ship() {
    }

    /** An object with power off; now() is 1 and no store got second 0. */
    static VoyageKeeper withoutPower() {
        VoyageKeeper x = new VoyageKeeper();
        x.cutAfter(0);
        x.second(1);
        return x;
    }

    static void paintAll(VoyageKeeper x, int cells) {
        for (int row = 0; row < 8; row++) {
            x.paint(row, cells);
        }
    }

    /** The canvas gets so many runs, 2 .. 64: cells change from one to the next, then stay. */
    static void paintRuns(VoyageKeeper x, int runs) {
        for (int row = 0; row < 8; row++) {
            int cells = 0;
            for (int i = 0; i < 8; i++) {
                int at = Math.min(row * 8 + i, runs - 1);
                cells |= (at % 2 == 0 ? 1 : 2) << 2 * i;
            }
            x.paint(row, cells);
        }
    }

    /** What came in fills a bundle of 5 pages in the main store. */
    static void fillFivePages(VoyageKeeper x) {
        for (int source = 0; source < 4; source++) {
            x.sentence(source, LONG_TEXT);
        }
        x.sound(0, 0, 1);
        x.sound(1, 0, 1);
        paintRuns(x, 64);
        x.show();
    }

    /** What came in fills a bundle of 2 pages. */
    static void fillTwoPages(VoyageKeeper x) {
        x.sentence(0, LONG_TEXT);
        x.sentence(1, 65);
    }
}
