import java.util.ArrayList;
import java.util.List;
import java.util.Map;
import java.util.TreeMap;
import java.util.TreeSet;

/**
 * A second writing of the document, with the collections of the library, to compare with.
 * Calls are told as a name and numbers; an answer is a number, or the name of an exception.
 */
final class SlowKeeper {
    private static final int[] PAGES = {40, 20, 10};
    private static final List<String> NEED_POWER = List.of(
        "sentence", "sound", "paint", "show", "contact", "second", "freeze", "release");

    /** What is kept of a second in one store. */
    private static final class Record {
        int time;
        final List<long[]> sentences = new ArrayList<>();
        final Map<Integer, int[]> sounds = new TreeMap<>();
        int[] cells;
        String coding = "none";
        int against = -1;
        int contacts;
        final TreeSet<Integer> pages = new TreeSet<>();
    }

    private final List<TreeMap<Integer, Record>> stores = new ArrayList<>();
    private final List<TreeSet<Integer>> freePages = new ArrayList<>();
    private final List<TreeSet<Integer>> badPages = new ArrayList<>();
    private final TreeSet<Integer> failedStores = new TreeSet<>();
    private final TreeMap<Integer, int[]> freezes = new TreeMap<>();
    private final TreeSet<Integer> contacts = new TreeSet<>();
    private int[] canvas = new int[64];
    private Record draft = new Record();
    private Record former;
    private boolean on = true;
    private int budget = Integer.MAX_VALUE;
    private Record loaded;
    private int[] knownCells;

    SlowKeeper() {
        for (int pages : PAGES) {
            stores.add(new TreeMap<>());
            badPages.add(new TreeSet<>());
            TreeSet<Integer> free = new TreeSet<>();
            for (int p = 0; p < pages; p++) {
                free.add(p);
            }
            freePages.add(free);
        }
    }

    int now() {
        return draft.time;
    }

    private static boolean in(long value, long low, long high) {
        return low <= value && value <= high;
    }

    String answer(String call, long[] a) {
        if (!on && NEED_POWER.contains(call)) {
            return "IllegalStateException";
        }
        if (call.equals("second") && !in(a[0], draft.time + 1, 9999)) {
            return "IllegalArgumentException";
        }
        return String.valueOf(number(call, a));
    }

    private static long bit(boolean yes) {
        return yes ? 1 : 0;
    }

    private long number(String call, long[] a) {
        int first = a.length > 0 ? (int) a[0] : 0;
        int second = a.length > 1 ? (int) a[1] : 0;
        switch (call) {
            case "sentence": return sentence(first, a[1]);
            case "sound": return bit(sound(first, second, (int) a[2]));
            case "paint": return bit(paint(first, second));
            case "show": return bit(show());
            case "contact": return bit(contact(first, a[1] == 1));
            case "second": return close(first);
            case "now": return draft.time;
            case "freeze": return freeze(first, second);
            case "release": return bit(freezes.remove(first) != null);
            case "frozen": return freezes.containsKey(first) ? freezes.get(first)[second] : -1;
            case "outSentence": return isSentence(first) ? loaded.sentences.get(first)[1] : 0;
            case "outSource": return isSentence(first) ? loaded.sentences.get(first)[0] : -1;
            case "outSound": return outSound(first, second);
            case "outContacts": return loaded == null ? 0 : loaded.contacts;
            case "outRow": return outRow(first);
            case "cutAfter": return bit(cutAfter(first));
            case "start": return bit(turnOn());
            default: return ofStore(call, first, second, a);
        }
    }

    private long ofStore(String call, int store, int b, long[] a) {
        boolean exists = in(store, 0, 2);
        switch (call) {
            case "has": return bit(exists && readable(store, b) != null);
            case "fail": return bit(exists && (b == 1 ? failedStores.add(store) : failedStores.remove(store)));
            case "spoil": return bit(exists && in(b, 0, PAGES[store] - 1) && badPages.get(store).add(b));
            default: break;
        }
        if (!exists) {
            return -1;
        }
        TreeMap<Integer, Record> kept = stores.get(store);
        switch (call) {
            case "kept": return kept.isEmpty() ? -1 : b == 1 ? kept.lastKey() : kept.firstKey();
            case "free": return freePages.get(store).size();
            case "replay": return load(store, b);
            case "find": return find(store, b, (int) a[2]);
            case "unreadable": return kept.keySet().stream().filter(t -> readable(store, t) == null).count();
            default: throw new AssertionError(call);
        }
    }

    private boolean turnOn() {
        if (on) {
            return false;
        }
        on = true;
        return true;
    }

    private int sentence(int source, long text) {
        int length = signs(text);
        if (!in(source, 0, 3) || length < 1 || draft.sentences.size() == 4) {
            return -1;
        }
        draft.sentences.add(new long[] {source, text, length});
        return draft.sentences.size();
    }

    private static int signs(long text) {
        int length = 8;
        while (length > 0 && (text >>> 8 * (length - 1) & 255) == 0) {
            length--;
        }
        for (int i = 0; i < length; i++) {
            if (!in(text >>> 8 * i & 255, 32, 126)) {
                return -1;
            }
        }
        return length;
    }

    private boolean sound(int channel, int k, int b) {
        if (!in(channel, 0, 1) || !in(k, 0, 3) || !in(b, 0, 255)) {
            return false;
        }
        draft.sounds.computeIfAbsent(channel, c -> new int[4])[k] = b;
        return true;
    }

    private boolean paint(int row, int cells) {
        if (!in(row, 0, 7) || !in(cells, 0, 65535)) {
            return false;
        }
        for (int i = 0; i < 8; i++) {
            canvas[8 * row + i] = cells >> 2 * i & 3;
        }
        return true;
    }

    private boolean show() {
        if (draft.cells != null) {
            return false;
        }
        draft.cells = canvas.clone();
        return true;
    }

    private boolean contact(int i, boolean turnedOn) {
        if (!in(i, 0, 15)) {
            return false;
        }
        if (turnedOn) {
            contacts.add(i);
        } else {
            contacts.remove(i);
        }
        return true;
    }

    private static int runs(int[] cells, int[] with) {
        StringBuilder text = new StringBuilder();
        for (int i = 0; i < 64; i++) {
            text.append(cells[i] ^ with[i]);
        }
        return text.toString().replaceAll("(.)\\1*", "x").length();
    }

    /** Sets the coding of the draft's picture; answers the bytes that the picture takes. */
    private int codePicture() {
        if (draft.cells == null) {
            return 0;
        }
        TreeMap<Integer, String> sizes = new TreeMap<>();
        sizes.put(16, "raw");
        sizes.putIfAbsent(runs(draft.cells, new int[64]), "runs");
        if (former != null && former.time / 10 == draft.time / 10) {
            sizes.putIfAbsent(runs(draft.cells, former.cells), "changes");
            draft.against = former.time;
        }
        draft.coding = sizes.firstEntry().getValue();
        return 1 + sizes.firstKey();
    }

    private Record copyFor(int store) {
        Record copy = new Record();
        copy.time = draft.time;
        copy.sentences.addAll(draft.sentences);
        copy.sounds.putAll(draft.sounds);
        if (store == 2) {
            copy.sounds.remove(1);
        }
        copy.cells = draft.cells;
        copy.coding = draft.coding;
        copy.against = draft.against;
        for (int c : contacts) {
            copy.contacts += 1 << c;
        }
        return copy;
    }

    private int close(int t) {
        int pictureBytes = codePicture();
        int got = 0;
        for (int store = 0; store < 3 && on; store++) {
            if (!failedStores.contains(store)) {
                Record copy = copyFor(store);
                int bytes = 6 + 5 * copy.sounds.size() + pictureBytes;
                for (long[] s : copy.sentences) {
                    bytes += 2 + (int) s[2];
                }
                got += put(store, copy, (int) Math.ceil(bytes / 16.0)) ? 1 : 0;
            }
        }
        if (draft.cells != null) {
            former = draft;
        }
        draft = new Record();
        draft.time = t;
        if (!on) {
            canvas = new int[64];
            contacts.clear();
            former = null;
            return -1;
        }
        return got;
    }

    private boolean put(int store, Record copy, int size) {
        TreeMap<Integer, Record> kept = stores.get(store);
        TreeSet<Integer> free = freePages.get(store);
        while (free.size() < size) {
            Integer victim = null;
            for (int t : kept.descendingKeySet()) {
                victim = store == 0 && isFrozen(t) ? victim : Integer.valueOf(t);
            }
            if (victim == null) {
                return false;
            }
            free.addAll(kept.remove(victim).pages);
        }
        for (int i = 0; i < size; i++) {
            if (budget == 0) {
                free.addAll(copy.pages);
                budget = Integer.MAX_VALUE;
                on = false;
                return false;
            }
            budget -= budget == Integer.MAX_VALUE ? 0 : 1;
            int page = free.pollFirst();
            badPages.get(store).remove(page);
            copy.pages.add(page);
        }
        kept.put(copy.time, copy);
        return true;
    }

    private boolean isFrozen(int t) {
        return freezes.values().stream().anyMatch(f -> in(t, f[0], f[1]));
    }

    private int freeze(int before, int after) {
        if (!in(before, 0, 9) || !in(after, 0, 9) || freezes.size() == 3) {
            return -1;
        }
        int number = 0;
        while (freezes.containsKey(number)) {
            number++;
        }
        freezes.put(number, new int[] {Math.max(0, draft.time - before), draft.time + after});
        int load = 0;
        for (int t = 0; t < 10100; t++) {
            if (isFrozen(t)) {
                Record kept = stores.get(0).get(t);
                load += t >= draft.time ? 5 : kept == null ? 0 : kept.pages.size();
            }
        }
        if (load > 20) {
            freezes.remove(number);
            return -1;
        }
        return number;
    }

    private boolean cutAfter(int n) {
        if (!on || !in(n, 0, 100)) {
            return false;
        }
        budget = n;
        return true;
    }

    private Record readable(int store, int t) {
        Record kept = stores.get(store).get(t);
        if (kept == null || kept.pages.stream().anyMatch(badPages.get(store)::contains)) {
            return null;
        }
        return kept;
    }

    private int load(int store, int t) {
        Record found = readable(store, t);
        if (found == null) {
            return -1;
        }
        loaded = found;
        knownCells = new int[64];
        int knownTime = -1;
        for (Record r : stores.get(store).subMap(t / 10 * 10, true, t, true).values()) {
            if (readable(store, r.time) == null || r.coding.equals("none")) {
                continue;
            }
            boolean isKnown = !r.coding.equals("changes") || r.against == knownTime;
            knownTime = isKnown ? r.time : -1;
            knownCells = isKnown ? r.cells : null;
        }
        return found.sentences.size();
    }

    private boolean isSentence(int k) {
        return loaded != null && in(k, 0, loaded.sentences.size() - 1);
    }

    private int outSound(int channel, int k) {
        if (!in(channel, 0, 1) || !in(k, 0, 3)) {
            return -1;
        }
        return loaded == null || !loaded.sounds.containsKey(channel) ? 0 : loaded.sounds.get(channel)[k];
    }

    private int outRow(int row) {
        if (!in(row, 0, 7)) {
            return -1;
        }
        if (loaded == null) {
            return 0;
        }
        if (knownCells == null) {
            return -1;
        }
        int cells = 0;
        for (int i = 0; i < 8; i++) {
            cells += knownCells[8 * row + i] << 2 * i;
        }
        return cells;
    }

    private int find(int store, int source, int from) {
        for (Record r : stores.get(store).tailMap(from, true).values()) {
            boolean said = r.sentences.stream().anyMatch(s -> s[0] == source);
            if (said && readable(store, r.time) != null) {
                return r.time;
            }
        }
        return -1;
    }
}
