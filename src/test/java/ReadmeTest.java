/** The example of README.md answers as it says there. */
public final class ReadmeTest {
    public static void main(String[] args) {
        Check.runCases(ReadmeTest.class);
    }

    static void example() {
        VoyageKeeper keeper = new VoyageKeeper();
        Check.due("sentence", keeper.sentence(2, 0x434241L), 1);
        Check.yes("sound", keeper.sound(0, 0, 200));
        Check.yes("contact", keeper.contact(3, true));
        Check.yes("paint", keeper.paint(0, 0xffff));
        Check.yes("show", keeper.show());
        Check.due("second(1)", keeper.second(1), 3);

        Check.due("freeze", keeper.freeze(1, 2), 0);
        Check.due("frozen first", keeper.frozen(0, false), 0);
        Check.due("frozen last", keeper.frozen(0, true), 3);

        Check.due("find", keeper.find(0, 2, 0), 0);
        Check.due("replay", keeper.replay(0, 0), 1);
        Check.due("outSentence", keeper.outSentence(0), 0x434241L);
        Check.due("outSource", keeper.outSource(0), 2);
        Check.due("outSound", keeper.outSound(0, 0), 200);
        Check.due("outContacts", keeper.outContacts(), 8);
        Check.due("outRow", keeper.outRow(0), 0xffff);

        Check.yes("spoil", keeper.spoil(0, 0));
        Check.no("has in the main store", keeper.has(0, 0));
        Check.yes("has in a capsule", keeper.has(1, 0));

        Check.yes("cutAfter", keeper.cutAfter(0));
        Check.due("second(2)", keeper.second(2), VoyageKeeper.NONE);
        Check.throwsState("show with power off", keeper::show);
        Check.yes("start", keeper.start());
        Check.due("now", keeper.now(), 2);
    }
}
