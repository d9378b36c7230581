import java.util.ArrayDeque;
import java.util.ArrayList;
import java.util.Arrays;
import java.util.Comparator;
import java.util.Deque;
import java.util.List;

/**
 * The document once more, written in another way: channels are texts, an undo keeps whole copies, and
 * the receiver reads all bits since it last began anew, from the first one, with each call.
 */
final class Model {
    private static final int[] RATES = {1, 2, 3, 4, -2, -4, -8};
    private static final int[] MINORS = {1, 2, 4, 8};

    private final Deque<State> saved = new ArrayDeque<>();
    private State now = new State();

    private static final class Item {
        int rate;
        int value = 0;
        int latest = -1;
        int count = 0;
        int[] limits = {0, 255, 0, 255, 0, 255};
        int persistence = 1;
        boolean alarm = false;
        int row = 0;
        int alarms = 0;

        Item copy() {
            Item copy = new Item();
            copy.rate = rate;
            copy.value = value;
            copy.latest = latest;
            copy.count = count;
            copy.limits = limits.clone();
            copy.persistence = persistence;
            copy.alarm = alarm;
            copy.row = row;
            copy.alarms = alarms;
            return copy;
        }
    }

    private static final class State {
        int words = 8;
        int minors = 4;
        List<Item> items = new ArrayList<>();
        int[][] owners = null;
        int next = 0;
        String channel = "";
        String taken = "";
        int[] countsBefore = new int[6];
        int mode = 0;

        State copy() {
            State copy = new State();
            copy.words = words;
            copy.minors = minors;
            for (Item item : items) {
                copy.items.add(item.copy());
            }
            copy.owners = owners;
            copy.next = next;
            copy.channel = channel;
            copy.taken = taken;
            copy.countsBefore = countsBefore.clone();
            copy.mode = mode;
            return copy;
        }

        int samples(int item) {
            int rate = items.get(item).rate;
            return rate > 0 ? rate * minors : minors / -rate;
        }

        void restart() {
            countsBefore = counts();
            owners = null;
            channel = "";
            taken = "";
            next = 0;
        }

        int[] counts() {
            int[] counts = countsBefore.clone();
            Reading reading = new Reading(taken, words);
            for (int i = 0; i < 6; i++) {
                counts[i] += i == 0 ? reading.frames.size() : i == 1 ? bad(reading) : reading.counts[i];
            }
            return counts;
        }

        private int bad(Reading reading) {
            int bad = 0;
            for (String frame : reading.frames) {
                bad += Integer.parseInt(frame.substring(0, 8), 2) >= minors ? 1 : 0;
            }
            return bad;
        }
    }

    /** What a receiver makes of bits. */
    private static final class Reading {
        private static final String SYNC = "1110101110010000";
        private final String bits;
        private final int words;
        private int at = 0;
        int state = 0;
        int misses = 0;
        final int[] counts = new int[6];
        final List<String> frames = new ArrayList<>();

        private static final class End extends Exception {
            private static final long serialVersionUID = 1L;
        }

        Reading(String bits, int words) {
            this.bits = bits;
            this.words = words;
            String carried = "";
            try {
                while (true) {
                    carried = searchAndFollow(carried);
                }
            } catch (End end) {
                return;
            }
        }

        private String next(int count) throws End {
            if (at + count > bits.length()) {
                throw new End();
            }
            at += count;
            return bits.substring(at - count, at);
        }

        private String searchAndFollow(String carried) throws End {
            String seen = carried;
            state = 0;
            while (!seen.endsWith(SYNC)) {
                seen = seen + next(1);
            }
            state = 1;
            counts[5]++;
            String begun = "";
            while (true) {
                String frame = begun + next(8 * (words - 2) - begun.length());
                if (state == 2) {
                    frames.add(frame);
                }
                begun = "";
                String sync = next(16);
                if (sync.equals(SYNC)) {
                    state = 2;
                    misses = 0;
                } else if (state == 1) {
                    return sync;
                } else if (SYNC.equals(frame.charAt(frame.length() - 1) + sync.substring(0, 15))) {
                    counts[2]++;
                    misses = 0;
                    begun = sync.substring(15);
                } else {
                    begun = next(1);
                    if (SYNC.equals(sync.substring(1) + begun)) {
                        counts[3]++;
                        misses = 0;
                        begun = "";
                    } else {
                        counts[4]++;
                        misses++;
                        if (misses == 3) {
                            misses = 0;
                            return "";
                        }
                    }
                }
            }
        }
    }

    private static void argument(boolean holds) {
        if (!holds) {
            throw new IllegalArgumentException();
        }
    }

    private static void state(boolean holds) {
        if (!holds) {
            throw new IllegalStateException();
        }
    }

    private static void index(boolean holds) {
        if (!holds) {
            throw new IndexOutOfBoundsException();
        }
    }

    private static boolean oneOf(int[] values, int value) {
        return Arrays.stream(values).anyMatch(v -> v == value);
    }

    private void save() {
        saved.addLast(now.copy());
        if (saved.size() > 4) {
            saved.removeFirst();
        }
    }

    private Item item(int parameter) {
        index(parameter >= 0 && parameter < now.items.size());
        return now.items.get(parameter);
    }

    int setFrame(int words, int minors) {
        argument(words >= 6 && words <= 16 && oneOf(MINORS, minors));
        save();
        now.restart();
        now.words = words;
        now.minors = minors;
        return words * minors;
    }

    int addParameter(int rate) {
        argument(oneOf(RATES, rate));
        state(now.items.size() < 12);
        save();
        now.restart();
        Item item = new Item();
        item.rate = rate;
        now.items.add(item);
        return now.items.size() - 1;
    }

    int plan() {
        List<Integer> order = new ArrayList<>();
        for (int i = 0; i < now.items.size(); i++) {
            order.add(i);
        }
        order.sort(Comparator.<Integer>comparingInt(i -> -now.samples(i)).thenComparingInt(i -> i));
        int[][] owners = new int[now.minors][now.words];
        for (int[] row : owners) {
            Arrays.fill(row, -1);
        }
        for (int i : order) {
            List<int[]> places = places(owners, now.items.get(i).rate);
            if (places == null) {
                return -10 - i;
            }
            places.forEach(place -> owners[place[0]][place[1]] = i);
        }
        save();
        now.owners = owners;
        return taken();
    }

    private int taken() {
        int taken = 0;
        for (int[] row : now.owners) {
            taken += (int) Arrays.stream(row).filter(owner -> owner >= 0).count();
        }
        return taken;
    }

    private List<int[]> places(int[][] owners, int rate) {
        int columns = now.words - 3;
        if (rate > 0 ? columns % rate != 0 : now.minors < -rate) {
            return null;
        }
        int starts = rate > 0 ? columns / rate : columns;
        int firsts = rate > 0 ? 1 : -rate;
        for (int start = 0; start < starts; start++) {
            for (int first = 0; first < firsts; first++) {
                List<int[]> places = new ArrayList<>();
                for (int minor = first; minor < now.minors; minor += firsts) {
                    for (int column = start; column < columns; column += rate > 0 ? starts : columns) {
                        places.add(new int[] {minor, 3 + column});
                    }
                }
                if (places.stream().allMatch(place -> owners[place[0]][place[1]] == -1)) {
                    return places;
                }
            }
        }
        return null;
    }

    int samplesPerMajor(int parameter) {
        item(parameter);
        return now.samples(parameter);
    }

    int slot(int parameter, int sample, int what) {
        item(parameter);
        argument(what == 0 || what == 1);
        state(now.owners != null);
        List<int[]> places = new ArrayList<>();
        for (int minor = 0; minor < now.minors; minor++) {
            for (int word = 0; word < now.words; word++) {
                if (now.owners[minor][word] == parameter) {
                    places.add(new int[] {minor, word});
                }
            }
        }
        state(sample >= 0 && sample < places.size());
        return places.get(sample)[what];
    }

    int ownerOf(int minor, int word) {
        index(minor >= 0 && minor < now.minors && word >= 0 && word < now.words);
        state(now.owners != null);
        return now.owners[minor][word];
    }

    double efficiency() {
        state(now.owners != null);
        return (double) taken() / (double) (now.words * now.minors);
    }

    int setValue(int parameter, int value) {
        item(parameter);
        argument(value >= 0 && value <= 255);
        save();
        int previous = item(parameter).value;
        item(parameter).value = value;
        return previous;
    }

    int send(int count) {
        argument(count >= 1 && count <= 16);
        state(now.owners != null && now.channel.length() + 8 * now.words * count <= 2048);
        save();
        for (int i = 0; i < count; i++) {
            StringBuilder frame = new StringBuilder(now.channel);
            for (int word = 0; word < now.words; word++) {
                int owner = now.owners[now.next][word];
                int value = word == 0 ? 235 : word == 1 ? 144 : word == 2 ? now.next
                        : owner < 0 ? 85 : item(owner).value;
                frame.append(Integer.toBinaryString(256 + value).substring(1));
            }
            now.channel = frame.toString();
            now.next = (now.next + 1) % now.minors;
        }
        return now.channel.length();
    }

    int pending() {
        return now.channel.length();
    }

    int bit(int index) {
        index(index >= 0 && index < now.channel.length());
        return now.channel.charAt(index) - '0';
    }

    int disturb(int kind, int index) {
        argument(kind >= 0 && kind <= 3);
        index(index >= 0 && index < now.channel.length());
        state(kind < 2 || now.channel.length() < 2048);
        save();
        String there = now.channel.substring(index, index + 1);
        String put = kind == 0 ? (there.equals("0") ? "1" : "0") : kind == 1 ? "" : (kind - 2) + there;
        now.channel = now.channel.substring(0, index) + put + now.channel.substring(index + 1);
        return now.channel.length();
    }

    int receive(int count) {
        argument(count >= 1 && count <= 2048);
        state(now.owners != null && count <= now.channel.length());
        save();
        int before = new Reading(now.taken, now.words).frames.size();
        now.taken = now.taken + now.channel.substring(0, count);
        now.channel = now.channel.substring(count);
        List<String> frames = new Reading(now.taken, now.words).frames;
        for (String frame : frames.subList(before, frames.size())) {
            deliver(frame);
        }
        return frames.size() - before;
    }

    private void deliver(String frame) {
        int minor = Integer.parseInt(frame.substring(0, 8), 2);
        for (int word = 3; minor < now.minors && word < now.words; word++) {
            int owner = now.owners[minor][word];
            if (owner >= 0) {
                check(item(owner), Integer.parseInt(frame.substring(8 * word - 16, 8 * word - 8), 2));
            }
        }
    }

    private void check(Item item, int sample) {
        item.latest = sample;
        item.count++;
        boolean out = sample < item.limits[2 * now.mode] || sample > item.limits[2 * now.mode + 1];
        item.row = out ? item.row + 1 : 0;
        boolean raise = out && !item.alarm && item.row >= item.persistence;
        item.alarms += raise ? 1 : 0;
        item.alarm = out && (item.alarm || raise);
    }

    int receiverState() {
        return new Reading(now.taken, now.words).state;
    }

    int received(int what) {
        argument(what >= 0 && what <= 5);
        return now.counts()[what];
    }

    int sample(int parameter) {
        return item(parameter).latest;
    }

    int samples(int parameter) {
        return item(parameter).count;
    }

    int setMode(int mode) {
        argument(mode >= 0 && mode <= 2);
        save();
        int previous = now.mode;
        now.mode = mode;
        return previous;
    }

    int setLimits(int parameter, int mode, int low, int high) {
        item(parameter);
        argument(mode >= 0 && mode <= 2 && low >= 0 && low <= high && high <= 255);
        save();
        int[] limits = item(parameter).limits;
        int previous = 1000 * limits[2 * mode] + limits[2 * mode + 1];
        limits[2 * mode] = low;
        limits[2 * mode + 1] = high;
        return previous;
    }

    int setPersistence(int parameter, int persistence) {
        item(parameter);
        argument(persistence >= 1 && persistence <= 5);
        save();
        int previous = item(parameter).persistence;
        item(parameter).persistence = persistence;
        return previous;
    }

    boolean hasAlarm(int parameter) {
        return item(parameter).alarm;
    }

    int alarms(int parameter) {
        return item(parameter).alarms;
    }

    int undo() {
        state(!saved.isEmpty());
        now = saved.removeLast();
        return saved.size();
    }

    long digest() {
        List<Integer> values = new ArrayList<>(List.of(now.words, now.minors, now.items.size()));
        for (Item item : now.items) {
            values.addAll(List.of(item.rate, item.value, item.latest, item.count));
            for (int limit : item.limits) {
                values.add(limit);
            }
            values.addAll(List.of(item.persistence, item.alarm ? 1 : 0, item.row, item.alarms));
        }
        values.add(now.owners == null ? 0 : 1);
        for (int minor = 0; now.owners != null && minor < now.minors; minor++) {
            for (int word = 0; word < now.words; word++) {
                values.add(now.owners[minor][word]);
            }
        }
        values.add(now.next);
        values.add(now.channel.length());
        for (char bit : now.channel.toCharArray()) {
            values.add(bit - '0');
        }
        Reading reading = new Reading(now.taken, now.words);
        values.addAll(List.of(reading.state, reading.misses));
        for (int count : now.counts()) {
            values.add(count);
        }
        values.add(now.mode);
        values.add(saved.size());
        long hash = 2837;
        for (int value : values) {
            hash = 31 * hash + value;
        }
        return hash;
    }
}
