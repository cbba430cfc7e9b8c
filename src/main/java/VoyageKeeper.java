/**
 * A voyage recorder: closes second after second into a main store and two capsules,
 * keeps frozen stretches from being overwritten, and replays what is still readable.
 */
public final class VoyageKeeper {
    public static final int NONE = -1;

    private static final int LAST_TIME = 9999;
    private static final int MINUTE = 10;
    private static final int SOURCES = 4;
    private static final int CHANNELS = 2;
    private static final int SOUND_BYTES = 4;
    private static final int CONTACTS = 16;
    private static final int MAIN = 0;
    private static final int MAX_STRETCH = 9;
    private static final int MAX_FROZEN_PAGES = 20;
    private static final int MAX_BUNDLE_PAGES = 5;
    private static final int MAX_PAGES_TO_CUT = 100;

    private final Power power = new Power();
    private final Freezes freezes = new Freezes();
    private final Store[] stores = {
        new Store(40, CHANNELS, true), new Store(20, CHANNELS, false), new Store(10, 1, false)
    };
    private Bundle underWay = new Bundle(0);
    private Bundle former = null;
    private Picture canvas = new Picture();
    private int contacts = 0;
    // An empty bundle and a blank picture answer just what is due when nothing was loaded.
    private Bundle loaded = new Bundle(0);
    private int loadedChannels = CHANNELS;
    private Picture known = new Picture();

    public VoyageKeeper() {
    }

    public int sentence(int source, long text) throws IllegalStateException {
        requirePower();
        return isBelow(source, SOURCES) ? underWay.addSentence(source, text) : NONE;
    }

    public boolean sound(int channel, int k, int b) throws IllegalStateException {
        requirePower();
        if (!isSoundByte(channel, k) || !isBelow(b, 256)) {
            return false;
        }
        underWay.setSound(channel, k, b);
        return true;
    }

    public boolean paint(int row, int cells) throws IllegalStateException {
        requirePower();
        if (!isBelow(row, Picture.ROWS) || !isBelow(cells, 65536)) {
            return false;
        }
        canvas.setRow(row, cells);
        return true;
    }

    public boolean show() throws IllegalStateException {
        requirePower();
        if (underWay.picture != null) {
            return false;
        }
        underWay.picture = canvas.copy();
        return true;
    }

    public boolean contact(int i, boolean on) throws IllegalStateException {
        requirePower();
        if (!isBelow(i, CONTACTS)) {
            return false;
        }
        contacts = on ? contacts | 1 << i : contacts & ~(1 << i);
        return true;
    }

    public int second(int t) throws IllegalStateException, IllegalArgumentException {
        requirePower();
        if (t <= underWay.time || t > LAST_TIME) {
            throw new IllegalArgumentException();
        }
        underWay.close(contacts, formerOfMinute());
        int stored = writeToStores(underWay);
        if (underWay.picture != null) {
            former = underWay;
        }
        underWay = new Bundle(t);
        if (!power.isOn()) {
            forgetWhatPowerHeld();
            return NONE;
        }
        return stored;
    }

    public int now() {
        return underWay.time;
    }

    public int freeze(int before, int after) throws IllegalStateException {
        requirePower();
        if (!isBelow(before, MAX_STRETCH + 1) || !isBelow(after, MAX_STRETCH + 1)) {
            return NONE;
        }
        int number = freezes.unusedNumber();
        if (number == NONE) {
            return NONE;
        }
        freezes.begin(number, Math.max(0, underWay.time - before), underWay.time + after);
        if (pagesForFreezes() > MAX_FROZEN_PAGES) {
            freezes.end(number);
            return NONE;
        }
        return number;
    }

    public boolean release(int freeze) throws IllegalStateException {
        requirePower();
        if (!freezes.isInUse(freeze)) {
            return false;
        }
        freezes.end(freeze);
        return true;
    }

    public int frozen(int freeze, boolean last) {
        return freezes.isInUse(freeze) ? freezes.edge(freeze, last) : NONE;
    }

    public int kept(int store, boolean last) {
        Store place = storeAt(store);
        if (place == null) {
            return NONE;
        }
        return last ? place.latest() : place.earliest();
    }

    public int free(int store) {
        Store place = storeAt(store);
        return place == null ? NONE : place.freePages();
    }

    public boolean has(int store, int t) {
        Store place = storeAt(store);
        return place != null && place.readableBundle(t) != null;
    }

    public int replay(int store, int t) {
        Store place = storeAt(store);
        if (place == null) {
            return NONE;
        }
        Bundle bundle = place.readableBundle(t);
        if (bundle == null) {
            return NONE;
        }
        loaded = bundle;
        loadedChannels = place.channels;
        known = place.pictureKnownAt(t);
        return bundle.sentences;
    }

    public long outSentence(int k) {
        return isBelow(k, loaded.sentences) ? loaded.texts[k] : 0L;
    }

    public int outSource(int k) {
        return isBelow(k, loaded.sentences) ? loaded.sources[k] : NONE;
    }

    public int outSound(int channel, int k) {
        if (!isSoundByte(channel, k)) {
            return NONE;
        }
        return channel < loadedChannels ? loaded.soundByte(channel, k) : 0;
    }

    public int outContacts() {
        return loaded.contactSum;
    }

    public int outRow(int row) {
        return known != null && isBelow(row, Picture.ROWS) ? known.row(row) : NONE;
    }

    public int find(int store, int source, int from) {
        Store place = storeAt(store);
        return place == null ? NONE : place.earliestOfSource(source, from);
    }

    public boolean fail(int store, boolean fails) {
        Store place = storeAt(store);
        if (place == null || place.failed == fails) {
            return false;
        }
        place.failed = fails;
        return true;
    }

    public boolean cutAfter(int n) {
        if (!power.isOn() || !isBelow(n, MAX_PAGES_TO_CUT + 1)) {
            return false;
        }
        power.planCut(n);
        return true;
    }

    public boolean start() {
        return power.turnOn();
    }

    public boolean spoil(int store, int page) {
        Store place = storeAt(store);
        return place != null && place.spoilPage(page);
    }

    public int unreadable(int store) {
        Store place = storeAt(store);
        return place == null ? NONE : place.unreadableBundles();
    }

    private void requirePower() {
        if (!power.isOn()) {
            throw new IllegalStateException();
        }
    }

    private static boolean isBelow(int value, int bound) {
        return value >= 0 && value < bound;
    }

    private static boolean isSoundByte(int channel, int k) {
        return isBelow(channel, CHANNELS) && isBelow(k, SOUND_BYTES);
    }

    private Store storeAt(int number) {
        return isBelow(number, stores.length) ? stores[number] : null;
    }

    private Bundle formerOfMinute() {
        boolean sameMinute = former != null && former.time / MINUTE == underWay.time / MINUTE;
        return sameMinute ? former : null;
    }

    private int writeToStores(Bundle bundle) {
        int stored = 0;
        for (int i = 0; i < stores.length && power.isOn(); i++) {
            if (stores[i].take(bundle, freezes, power)) {
                stored++;
            }
        }
        return stored;
    }

    private void forgetWhatPowerHeld() {
        former = null;
        canvas = new Picture();
        contacts = 0;
    }

    /** What the freezes may need: the pages that they hold, and the most for seconds to come. */
    private int pagesForFreezes() {
        int pages = stores[MAIN].pagesHeld(freezes);
        // No freeze reaches farther, for none was made later than now.
        for (int ahead = 0; ahead <= MAX_STRETCH; ahead++) {
            if (freezes.hold(underWay.time + ahead)) {
                pages += MAX_BUNDLE_PAGES;
            }
        }
        return pages;
    }

    /** Eight rows of eight cells, two bits a cell. */
    private static final class Picture {
        static final int ROWS = 8;
        private static final int CELLS = 64;
        private static final int CELLS_A_ROW = 8;
        private final int[] rows = new int[ROWS];

        int row(int i) {
            return isBelow(i, ROWS) ? rows[i] : NONE;
        }

        void setRow(int i, int cells) {
            if (isBelow(i, ROWS)) {
                rows[i] = cells;
            }
        }

        Picture copy() {
            Picture result = new Picture();
            System.arraycopy(rows, 0, result.rows, 0, ROWS);
            return result;
        }

        Picture xor(Picture other) {
            Picture result = new Picture();
            for (int i = 0; i < ROWS; i++) {
                result.rows[i] = rows[i] ^ other.rows[i];
            }
            return result;
        }

        /** How many longest rows of equal cells there are; they go on over a row's end. */
        int runs() {
            int runs = 1;
            for (int i = 1; i < CELLS; i++) {
                if (cell(i) != cell(i - 1)) {
                    runs++;
                }
            }
            return runs;
        }

        private int cell(int i) {
            return rows[i / CELLS_A_ROW] >> 2 * (i % CELLS_A_ROW) & 3;
        }
    }

    /** What came in in a second; it changes no more once it is closed, so that stores share it. */
    private static final class Bundle {
        private static final int MAX_SENTENCES = 4;
        private static final int MAX_SIGNS = 8;
        private static final int HEAD_BYTES = 6;
        private static final int RAW_BYTES = 16;
        private static final int PAGE_BYTES = 16;
        final int time;
        final long[] texts = new long[MAX_SENTENCES];
        final int[] sources = new int[MAX_SENTENCES];
        int sentences = 0;
        int contactSum = 0;
        Picture picture = null;
        /** The second of the picture against which this one is coded, NONE when it is coded by itself. */
        int base = NONE;
        private int pictureBytes = 0;
        private int sentenceBytes = 0;
        private final int[] sounds = new int[CHANNELS * SOUND_BYTES];
        private final boolean[] heard = new boolean[CHANNELS];

        Bundle(int time) {
            this.time = time;
        }

        int addSentence(int source, long text) {
            int signs = countSigns(text);
            if (signs == 0 || sentences >= MAX_SENTENCES) {
                return NONE;
            }
            sources[sentences] = source;
            texts[sentences] = text;
            sentenceBytes += 2 + signs;
            sentences++;
            return sentences;
        }

        /** How many signs a text has; 0 when it is none. */
        private static int countSigns(long text) {
            int signs = 0;
            long rest = text;
            while (rest != 0L && signs < MAX_SIGNS) {
                long sign = rest & 255L;
                // A 0 is refused here too, for other signs are still behind it.
                if (sign < 32L || sign > 126L) {
                    return 0;
                }
                rest = rest >>> 8;
                signs++;
            }
            return signs;
        }

        void setSound(int channel, int k, int b) {
            if (isSoundByte(channel, k)) {
                sounds[channel * SOUND_BYTES + k] = b;
                heard[channel] = true;
            }
        }

        int soundByte(int channel, int k) {
            return isSoundByte(channel, k) ? sounds[channel * SOUND_BYTES + k] : NONE;
        }

        boolean hasSentenceOf(int source) {
            for (int i = 0; i < sentences && i < MAX_SENTENCES; i++) {
                if (sources[i] == source) {
                    return true;
                }
            }
            return false;
        }

        void close(int contactsNow, Bundle former) {
            contactSum = contactsNow;
            if (picture == null) {
                return;
            }
            pictureBytes = Math.min(RAW_BYTES, picture.runs());
            if (former != null && former.picture != null) {
                int changes = picture.xor(former.picture).runs();
                // A tie goes to the codings that need no other picture.
                if (changes < pictureBytes) {
                    pictureBytes = changes;
                    base = former.time;
                }
            }
        }

        /** The pages it takes in a store that gets only so many channels. */
        int pages(int channels) {
            int bytes = HEAD_BYTES + sentenceBytes;
            for (int c = 0; c < channels && c < CHANNELS; c++) {
                if (heard[c]) {
                    bytes += 1 + SOUND_BYTES;
                }
            }
            if (picture != null) {
                bytes += 1 + pictureBytes;
            }
            return (bytes + PAGE_BYTES - 1) / PAGE_BYTES;
        }
    }

    /** The power, and the cut that is due. */
    private static final class Power {
        private boolean on = true;
        private int pagesToCut = NONE;

        boolean isOn() {
            return on;
        }

        boolean turnOn() {
            boolean wasOff = !on;
            on = true;
            return wasOff;
        }

        void planCut(int pages) {
            pagesToCut = pages;
        }

        /** To be asked once for each page before it is written: whether power goes in it. */
        boolean isCutInNextPage() {
            if (pagesToCut == NONE) {
                return false;
            }
            if (pagesToCut > 0) {
                pagesToCut--;
                return false;
            }
            pagesToCut = NONE;
            on = false;
            return true;
        }
    }

    /** The stretches of seconds that are frozen, by number. */
    private static final class Freezes {
        private static final int MOST = 3;
        private final boolean[] inUse = new boolean[MOST];
        private final int[] first = new int[MOST];
        private final int[] last = new int[MOST];

        boolean isInUse(int number) {
            return isBelow(number, MOST) && inUse[number];
        }

        int unusedNumber() {
            for (int i = 0; i < MOST; i++) {
                if (!inUse[i]) {
                    return i;
                }
            }
            return NONE;
        }

        void begin(int number, int from, int to) {
            if (isBelow(number, MOST)) {
                inUse[number] = true;
                first[number] = from;
                last[number] = to;
            }
        }

        void end(int number) {
            if (isBelow(number, MOST)) {
                inUse[number] = false;
            }
        }

        int edge(int number, boolean ofEnd) {
            if (!isBelow(number, MOST)) {
                return NONE;
            }
            return ofEnd ? last[number] : first[number];
        }

        boolean hold(int t) {
            for (int i = 0; i < MOST; i++) {
                if (inUse[i] && first[i] <= t && t <= last[i]) {
                    return true;
                }
            }
            return false;
        }
    }

    /** Pages, each of a bundle or free. A store has one bundle of a second at the most. */
    private static final class Store {
        final int channels;
        boolean failed = false;
        private final boolean obeysFreezes;
        private final Bundle[] holders;
        private final boolean[] spoiled;

        Store(int pages, int channels, boolean obeysFreezes) {
            this.channels = channels;
            this.obeysFreezes = obeysFreezes;
            holders = new Bundle[pages];
            spoiled = new boolean[pages];
        }

        /** Whether the store got the bundle. */
        boolean take(Bundle bundle, Freezes freezes, Power power) {
            if (failed) {
                return false;
            }
            int needed = bundle.pages(channels);
            return makeRoom(needed, freezes) && write(bundle, needed, power);
        }

        private boolean makeRoom(int needed, Freezes freezes) {
            for (int i = 0; i < holders.length && freePages() < needed; i++) {
                int oldest = earliestNotFrozen(freezes);
                if (oldest == NONE) {
                    return false;
                }
                takeOut(oldest);
            }
            return freePages() >= needed;
        }

        private boolean write(Bundle bundle, int needed, Power power) {
            int written = 0;
            for (int p = 0; p < holders.length && written < needed; p++) {
                if (holders[p] == null) {
                    if (power.isCutInNextPage()) {
                        takeOut(bundle.time);
                        return false;
                    }
                    holders[p] = bundle;
                    spoiled[p] = false;
                    written++;
                }
            }
            return true;
        }

        private void takeOut(int t) {
            for (int p = 0; p < holders.length; p++) {
                if (isOf(p, t)) {
                    holders[p] = null;
                }
            }
        }

        private boolean isOf(int page, int t) {
            Bundle bundle = holders[page];
            return bundle != null && bundle.time == t;
        }

        private boolean isFrozen(Bundle bundle, Freezes freezes) {
            return obeysFreezes && freezes.hold(bundle.time);
        }

        private int earliestNotFrozen(Freezes freezes) {
            int least = NONE;
            for (int p = 0; p < holders.length; p++) {
                Bundle bundle = holders[p];
                if (bundle != null && !isFrozen(bundle, freezes)) {
                    least = earlier(least, bundle.time);
                }
            }
            return least;
        }

        int pagesHeld(Freezes freezes) {
            int count = 0;
            for (int p = 0; p < holders.length; p++) {
                Bundle bundle = holders[p];
                if (bundle != null && isFrozen(bundle, freezes)) {
                    count++;
                }
            }
            return count;
        }

        private static int earlier(int best, int t) {
            return best == NONE ? t : Math.min(best, t);
        }

        int earliest() {
            int least = NONE;
            for (int p = 0; p < holders.length; p++) {
                Bundle bundle = holders[p];
                if (bundle != null) {
                    least = earlier(least, bundle.time);
                }
            }
            return least;
        }

        int latest() {
            int most = NONE;
            for (int p = 0; p < holders.length; p++) {
                Bundle bundle = holders[p];
                if (bundle != null) {
                    most = Math.max(most, bundle.time);
                }
            }
            return most;
        }

        int earliestOfSource(int source, int from) {
            int least = NONE;
            for (int p = 0; p < holders.length; p++) {
                Bundle bundle = holders[p];
                if (bundle != null && bundle.time >= from && bundle.hasSentenceOf(source)
                        && readableBundle(bundle.time) != null) {
                    least = earlier(least, bundle.time);
                }
            }
            return least;
        }

        int freePages() {
            int count = 0;
            for (int p = 0; p < holders.length; p++) {
                if (holders[p] == null) {
                    count++;
                }
            }
            return count;
        }

        /** The bundle of second t, null when there is none or a page of it is spoiled. */
        Bundle readableBundle(int t) {
            Bundle found = null;
            for (int p = 0; p < holders.length; p++) {
                if (isOf(p, t)) {
                    if (spoiled[p]) {
                        return null;
                    }
                    found = holders[p];
                }
            }
            return found;
        }

        boolean spoilPage(int page) {
            if (!isBelow(page, spoiled.length) || spoiled[page]) {
                return false;
            }
            spoiled[page] = true;
            return true;
        }

        int unreadableBundles() {
            int count = 0;
            for (int p = 0; p < holders.length; p++) {
                // A bundle counts once, at the first of its spoiled pages.
                if (holders[p] != null && spoiled[p] && !isSpoiledBefore(p, holders[p].time)) {
                    count++;
                }
            }
            return count;
        }

        private boolean isSpoiledBefore(int page, int t) {
            for (int p = 0; p < page; p++) {
                if (spoiled[p] && isOf(p, t)) {
                    return true;
                }
            }
            return false;
        }

        /** The picture that stands at second t for one who reads this store alone; null when none is known. */
        Picture pictureKnownAt(int t) {
            Picture picture = new Picture();
            int pictureTime = NONE;
            for (int back = Math.floorMod(t, MINUTE); back >= 0; back--) {
                Bundle bundle = readableBundle(t - back);
                if (bundle != null && bundle.picture != null) {
                    // The base is told by its second: a like picture of another second is not it.
                    boolean decodes = bundle.base == NONE || bundle.base == pictureTime;
                    picture = decodes ? bundle.picture : null;
                    pictureTime = decodes ? bundle.time : NONE;
                }
            }
            return picture;
        }
    }
}
