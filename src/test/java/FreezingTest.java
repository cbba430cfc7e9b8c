/** Promises 9 to 11: freezes, and what they keep from being overwritten. */
public final class FreezingTest {
    private static final Check C = new Check();

    public static void main(String[] args) {
        arguments();
        numbers();
        edges();
        seconds();
        pages();
        overlaps();
        refusalChangesNothing();
        keepsOnlyTheMainStore();
        withoutPower();
        C.end("FreezingTest");
    }

    private static VoyageKeeper at(int t) {
        VoyageKeeper x = new VoyageKeeper();
        x.second(t);
        return x;
    }

    private static void arguments() {
        VoyageKeeper x = at(100);
        C.due("9 before -1", x.freeze(-1, 0), -1);
        C.due("9 before 10", x.freeze(10, 0), -1);
        C.due("9 after -1", x.freeze(0, -1), -1);
        C.due("9 after 10", x.freeze(0, 10), -1);
        C.due("9 before 9", x.freeze(9, 0), 0);
        C.due("11 after refusals", x.frozen(1, false), -1);
    }

    private static void numbers() {
        VoyageKeeper x = at(100);
        C.due("9 first", x.freeze(0, 0), 0);
        C.due("9 second", x.freeze(0, 1), 1);
        C.due("9 third", x.freeze(0, 2), 2);
        C.due("9 there are 3", x.freeze(0, 0), -1);
        C.no("10 number -1", x.release(-1));
        C.no("10 number 3", x.release(3));
        C.yes("10 release 1", x.release(1));
        C.no("10 release 1 again", x.release(1));
        C.yes("10 release 0", x.release(0));
        C.due("9 the least that is free", x.freeze(3, 3), 0);
        C.due("9 the next", x.freeze(1, 1), 1);
        C.due("11 number 2 as it was", x.frozen(2, true), 102);
    }

    private static void edges() {
        VoyageKeeper x = at(5);
        x.freeze(9, 1);
        C.due("11 not before 0", x.frozen(0, false), 0);
        C.due("11 last", x.frozen(0, true), 6);
        x.freeze(2, 0);
        C.due("11 first", x.frozen(1, false), 3);
        C.due("11 last is now", x.frozen(1, true), 5);
        C.due("11 number -1", x.frozen(-1, true), -1);
        C.due("11 number 2", x.frozen(2, true), -1);
        C.due("11 number 3", x.frozen(3, false), -1);
        x.release(0);
        C.due("11 released", x.frozen(0, false), -1);
        VoyageKeeper y = at(9999);
        C.due("9 five pages also for what lies behind 9999", y.freeze(0, 4), -1);
        C.due("9 at the end of time", y.freeze(0, 3), 0);
        C.due("11 last behind 9999", y.frozen(0, true), 10002);
    }

    private static void seconds() {
        VoyageKeeper x = new VoyageKeeper();
        C.due("9 25 pages to come", x.freeze(0, 4), -1);
        C.due("9 20 pages to come", x.freeze(0, 3), 0);
        C.due("9 within them", x.freeze(0, 3), 1);
        C.due("9 one second more", x.freeze(0, 4), -1);
        x.second(1);
        C.due("9 1 page and 15 to come", x.freeze(0, 2), 2);
        x.release(2);
        C.due("9 1 page and 20 to come", x.freeze(0, 3), -1);
        x.release(0);
        x.release(1);
        C.due("9 20 to come, second 0 not frozen", x.freeze(0, 3), 0);
        x.release(0);
        C.due("9 second 0 frozen by the new one", x.freeze(1, 3), -1);
        x.second(4);
        C.due("9 seconds between that were none", x.freeze(2, 3), 0);
    }

    private static void pages() {
        VoyageKeeper x = new VoyageKeeper();
        for (int t = 1; t <= 3; t++) {
            Ship.fillFivePages(x);
            x.second(t);
        }
        C.due("9 the pages and 5 for now", x.free(0), 40 - 5 - 4 - 4);
        x.second(4);
        // Seconds 0 .. 3 take 5, 4, 4 and 1 pages.
        C.due("9 14 and 10", x.freeze(4, 1), -1);
        C.due("9 14 and 5", x.freeze(4, 0), 0);
        x.release(0);
        C.due("9 9 and 10", x.freeze(3, 1), 0);
        C.due("9 frozen pages of another freeze", x.freeze(9, 0), -1);
        x.spoil(0, 0);
        x.release(0);
        C.due("9 unreadable ones count", x.freeze(4, 1), -1);
        x.fail(0, true);
        C.due("9 those of a failed store count", x.freeze(4, 1), -1);
    }

    private static void overlaps() {
        VoyageKeeper x = new VoyageKeeper();
        C.due("9 now .. 1", x.freeze(0, 1), 0);
        x.second(1);
        C.due("9 a page of 0, once, and 15", x.freeze(1, 2), 1);
        C.due("9 again", x.freeze(1, 2), 2);
        x.second(3);
        C.due("9 released first", x.release(1) ? 1 : 0, 1);
        C.due("9 0, 1, and 3 by number 2, and 15 more", x.freeze(0, 3), -1);
        C.due("9 0, 1, and 3, 4, 5", x.freeze(0, 2), 1);
    }

    private static void refusalChangesNothing() {
        VoyageKeeper x = new VoyageKeeper();
        for (int t = 1; t <= 40; t++) {
            if (t == 2) {
                C.due("9 refused", x.freeze(1, 4), -1);
                C.due("11 refused", x.frozen(0, false), -1);
            }
            x.second(t);
        }
        x.second(41);
        C.due("9 a refused freeze keeps nothing", x.kept(0, false), 1);
    }

    private static void keepsOnlyTheMainStore() {
        VoyageKeeper x = new VoyageKeeper();
        x.second(1);
        x.second(2);
        C.due("9 freezes 1 .. 3", x.freeze(1, 1), 0);
        for (int t = 3; t <= 50; t++) {
            C.due("7 all stores", x.second(t), 3);
        }
        C.no("7 the earliest not frozen went first", x.has(0, 0));
        C.yes("9 first frozen", x.has(0, 1));
        C.yes("9 last frozen", x.has(0, 3));
        C.no("9 behind the freeze", x.has(0, 4));
        C.due("12 frozen is kept", x.kept(0, false), 1);
        C.due("9 not in capsule 1", x.kept(1, false), 30);
        C.due("9 not in capsule 2", x.kept(2, false), 40);
        x.release(0);
        x.second(51);
        C.no("10 no longer kept", x.has(0, 1));
        C.yes("10 the others not yet", x.has(0, 2));
    }

    private static void withoutPower() {
        VoyageKeeper x = new VoyageKeeper();
        x.freeze(0, 2);
        x.cutAfter(0);
        x.second(1);
        C.throwsState("9 off", () -> x.freeze(0, 0));
        C.throwsState("9 off and wrong", () -> x.freeze(-1, 0));
        C.throwsState("10 off", () -> x.release(0));
        C.throwsState("10 off and wrong", () -> x.release(7));
        C.due("11 freezes stay", x.frozen(0, true), 2);
        x.start();
        C.due("11 and are there when power comes", x.frozen(0, false), 0);
        C.yes("10 on again", x.release(0));
    }
}
