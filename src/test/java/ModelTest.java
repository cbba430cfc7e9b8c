import java.util.ArrayDeque;
import java.util.Arrays;
import java.util.Deque;

/** Long runs of mixed calls, ordinary and wrong, each answered as SlowKeeper answers it. */
public final class ModelTest {
    private static final int RUNS = 1500;
    private static final int CALLS = 512;
    private static final int SHOWN = 30;
    private static final String[] QUESTIONS = {
        "now", "frozen", "kept", "free", "has", "replay", "outSentence", "outSource", "outSound",
        "outContacts", "outRow", "find", "unreadable"};
    private static final long[] TEXTS = {
        65, 0x4241, 0x2020202020202041L, 0x7e7e7e7e7e7e7e7eL, 0x43424140, 0, 31, 127, 0x4100, -1};

    private final int style;
    private long seed;
    private int now = 0;

    private ModelTest(int run) {
        style = run % 4;
        seed = run * 7919L + 17;
    }

    public static void main(String[] args) {
        boolean same = true;
        for (int run = 0; run < RUNS && same; run++) {
            same = new ModelTest(run).isSameThroughout(run);
        }
        Check.end("ModelTest");
    }

    private boolean isSameThroughout(int run) {
        VoyageKeeper x = new VoyageKeeper();
        SlowKeeper slow = new SlowKeeper();
        Deque<String> last = new ArrayDeque<>();
        for (int i = 0; i < CALLS; i++) {
            String name = chooseCall();
            long[] a = chooseArguments(name);
            String want = slow.answer(name, a);
            String got = answer(x, name, a);
            // Asked of the model, so that the object gets no more calls than it may be used for.
            now = slow.now();
            last.add(name + Arrays.toString(a) + " answered " + got);
            if (last.size() > SHOWN) {
                last.remove();
            }
            Check.yes("run " + run + " call " + i + ", due is " + want, got.equals(want));
            if (!got.equals(want)) {
                last.forEach(System.out::println);
                return false;
            }
        }
        return true;
    }

    /** A number from 0 to below the bound, the same in every run of the test. */
    private int below(int bound) {
        seed = seed * 6364136223846793005L + 1442695040888963407L;
        return (int) ((seed >>> 33) % bound);
    }

    private String chooseCall() {
        int dice = below(100);
        if (dice < 22) {
            return "second";
        }
        if (dice < 34) {
            return "show";
        }
        if (dice < 44) {
            return "paint";
        }
        if (dice < 58) {
            return dice < 52 ? "sentence" : dice < 56 ? "sound" : "contact";
        }
        if (dice < 66) {
            return dice < 62 ? "spoil" : dice < 64 ? "fail" : "start";
        }
        if (dice < 71) {
            return style == 0 ? "sentence" : dice < 69 ? "freeze" : "release";
        }
        if (dice < 73) {
            return style == 1 ? "show" : "cutAfter";
        }
        return dice < 88 ? below(2) == 0 ? "replay" : "outRow" : QUESTIONS[below(QUESTIONS.length)];
    }

    /** A number from 0 to the bound, now and then a wrong one. */
    private int nearly(int bound) {
        int dice = below(40);
        return dice == 0 ? -1 : dice == 1 ? bound : dice == 2 ? Integer.MIN_VALUE : below(bound);
    }

    private int aTime() {
        return below(30) == 0 ? nearly(10001) : now - below(below(2) == 0 ? 12 : 50) + 1;
    }

    private long[] chooseArguments(String name) {
        switch (name) {
            case "sentence": return new long[] {nearly(4), TEXTS[below(below(4) == 0 ? TEXTS.length : 5)]};
            case "sound": return new long[] {nearly(2), nearly(4), nearly(256)};
            case "paint": return new long[] {nearly(8), below(3) == 0 ? below(4) : nearly(65536)};
            case "contact": return new long[] {nearly(16), below(2)};
            case "second": return new long[] {nextTime()};
            case "freeze": return new long[] {nearly(10), below(2) == 0 ? below(3) : nearly(10)};
            case "release": return new long[] {nearly(3)};
            case "frozen": return new long[] {nearly(3), below(2)};
            case "fail": case "kept": return new long[] {nearly(3), below(2)};
            case "has": case "replay": return new long[] {nearly(3), aTime()};
            case "free": case "unreadable": return new long[] {nearly(3)};
            case "outSentence": case "outSource": return new long[] {nearly(4)};
            case "outSound": return new long[] {nearly(2), nearly(4)};
            case "outRow": return new long[] {nearly(8)};
            case "find": return new long[] {nearly(3), nearly(4), aTime()};
            case "cutAfter": return new long[] {below(2) == 0 ? below(12) : nearly(101)};
            case "spoil": return new long[] {nearly(3), nearly(below(2) == 0 ? 12 : 40)};
            default: return new long[0];
        }
    }

    private long nextTime() {
        int dice = below(60);
        if (dice < 2) {
            return dice == 0 ? now : nearly(10001);
        }
        return now + (dice < 50 ? 1 : dice < 57 ? 2 + below(4) : 10);
    }

    private static String answer(VoyageKeeper x, String name, long[] a) {
        try {
            return String.valueOf(number(x, name, a));
        } catch (RuntimeException e) {
            return e.getClass().getSimpleName();
        }
    }

    private static long bit(boolean yes) {
        return yes ? 1 : 0;
    }

    private static long number(VoyageKeeper x, String name, long[] a) {
        int i = a.length > 0 ? (int) a[0] : 0;
        int j = a.length > 1 ? (int) a[1] : 0;
        int k = a.length > 2 ? (int) a[2] : 0;
        switch (name) {
            case "sentence": return x.sentence(i, a[1]);
            case "sound": return bit(x.sound(i, j, k));
            case "paint": return bit(x.paint(i, j));
            case "show": return bit(x.show());
            case "contact": return bit(x.contact(i, j == 1));
            case "second": return x.second(i);
            case "now": return x.now();
            case "freeze": return x.freeze(i, j);
            case "release": return bit(x.release(i));
            case "frozen": return x.frozen(i, j == 1);
            case "kept": return x.kept(i, j == 1);
            case "free": return x.free(i);
            case "has": return bit(x.has(i, j));
            case "replay": return x.replay(i, j);
            case "outSentence": return x.outSentence(i);
            case "outSource": return x.outSource(i);
            case "outSound": return x.outSound(i, j);
            case "outContacts": return x.outContacts();
            case "outRow": return x.outRow(i);
            case "find": return x.find(i, j, k);
            case "fail": return bit(x.fail(i, j == 1));
            case "cutAfter": return bit(x.cutAfter(i));
            case "start": return bit(x.start());
            case "spoil": return bit(x.spoil(i, j));
            case "unreadable": return x.unreadable(i);
            default: throw new AssertionError(name);
        }
    }
}
