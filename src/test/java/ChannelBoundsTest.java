/** Sentences of promises 9 to 13, and of "Sending", that name a boundary case. */
public final class ChannelBoundsTest {
    private static final Class<?> ARGUMENT = IllegalArgumentException.class;
    private static final Class<?> STATE = IllegalStateException.class;
    private static final Class<?> INDEX = IndexOutOfBoundsException.class;
    private static final int MOST = 2048;

    public static void main(String[] args) {
        values();
        valuesAreSentWhole();
        counts();
        numberZeroAgain();
        numberZeroBehindANewLayout();
        freeColumns();
        asManyAsTheChannelHolds();
        oneBitTooMany();
        noPlanToSend();
        emptyChannel();
        fullChannel();
        bits();
        kinds();
        indexesOfDisturb();
        disturbEmptyChannel();
        removeDownToNothing();
        insertUpToTheLast();
        fullChannelTakesNoBit();
        Checks.finish("ChannelBoundsTest");
    }

    private static FrameCommutator withBits(int count) {
        FrameCommutator x = Streams.full();
        if (count < MOST) {
            x.receive(MOST - count);
        }
        return x;
    }

    /** "value: 0 to 255" */
    private static void values() {
        Bounds.range("9: value", () -> Streams.planned(1), 0, 255, ARGUMENT, (x, v) -> x.setValue(0, v));
        FrameCommutator x = Streams.planned(1);
        Checks.same("9: initially 0", x.setValue(0, 255), 0);
        Checks.same("9: the largest before", x.setValue(0, 0), 255);
        Checks.same("9: the smallest before", x.setValue(0, 1), 0);
    }

    /** "the most significant bit of each word first" */
    private static void valuesAreSentWhole() {
        for (int value : new int[] {0, 1, 127, 128, 254, 255}) {
            FrameCommutator x = Streams.planned(1);
            x.setValue(0, value);
            x.send(1);
            Checks.same("10: the bits of " + value, Streams.bits(x, 24, 8), Streams.word(value));
        }
    }

    /** "count: number of minor frames, 1 to 16" */
    private static void counts() {
        Bounds.range("10: count", () -> Streams.plannedAs(16, 1), 1, 16, ARGUMENT, (x, n) -> x.send(n));
        Checks.same("10: one minor frame", Streams.plannedAs(6, 1).send(1), 48);
        Checks.same("10: sixteen minor frames", Streams.plannedAs(6, 1).send(16), 768);
    }

    private static int numberAt(FrameCommutator x, int frame) {
        return Integer.parseInt(Streams.bits(x, 48 * frame + 16, 8), 2);
    }

    /** "beginning with number 0, and with number 0 again after number M - 1" */
    private static void numberZeroAgain() {
        for (int minors = 1; minors <= 8; minors *= 2) {
            FrameCommutator x = Streams.plannedAs(6, minors);
            for (int i = 0; i <= 2 * minors; i++) {
                x.send(1);
                Checks.same("10: M " + minors + ", minor frame " + i, numberAt(x, i), i % minors);
            }
            x.undo();
            x.send(1);
            Checks.same("24: M " + minors + ", the last one again", numberAt(x, 2 * minors), 0);
        }
    }

    /** "the sender begins with minor frame 0" */
    private static void numberZeroBehindANewLayout() {
        FrameCommutator x = Streams.plannedAs(6, 8);
        x.send(7);
        x.setFrame(6, 8);
        x.plan();
        x.send(1);
        Checks.same("2: number 0", numberAt(x, 0), 0);
        x.addParameter(1);
        x.plan();
        x.send(2);
        Checks.same("3: number 0", numberAt(x, 0), 0);
        Checks.same("3: then number 1", numberAt(x, 1), 1);
        x.plan();
        x.send(1);
        Checks.same("4: plan() lets the sender go on", numberAt(x, 2), 2);
    }

    /** "Columns that are free in a minor frame are filled with 85." */
    private static void freeColumns() {
        FrameCommutator x = Streams.plannedAs(6, 2, -2);
        x.setValue(0, 7);
        x.send(2);
        Checks.same("10: free but for one", Streams.words(x, 0, 6), "235 144 0 7 85 85");
        Checks.same("10: all are free", Streams.words(x, 48, 6), "235 144 1 85 85 85");
    }

    /** "the channel would have more than 2048 bits" */
    private static void asManyAsTheChannelHolds() {
        for (int words = 6; words <= 16; words++) {
            int frames = MOST / (8 * words);
            FrameCommutator x = Streams.plannedAs(words, 2, 1);
            for (int left = frames; left > 0; left -= Math.min(16, left)) {
                x.send(Math.min(16, left));
            }
            Checks.same("11: " + frames + " of " + words + " words", x.pending(), 8 * words * frames);
            Checks.refused(x, "10: one more of " + words + " words", STATE, () -> x.send(1));
            Checks.refused(x, "10: sixteen more of " + words + " words", STATE, () -> x.send(16));
        }
    }

    private static void oneBitTooMany() {
        FrameCommutator x = withBits(MOST - 128);
        x.disturb(2, 0);
        Checks.refused(x, "10: 2049 bits", STATE, () -> x.send(1));
        x.disturb(1, 0);
        Checks.same("10: 2048 bits", x.send(1), MOST);
        FrameCommutator y = withBits(1);
        Checks.refused(y, "10: 2049 bits at once", STATE, () -> y.send(16));
        y.receive(1);
        Checks.same("10: 2048 bits at once", y.send(16), MOST);
    }

    private static void noPlanToSend() {
        FrameCommutator x = Streams.withRates(6, 2, 1);
        Checks.refused(x, "10: no plan yet", STATE, () -> x.send(1));
        x.plan();
        x.send(1);
        x.setFrame(6, 2);
        Checks.refused(x, "10: no plan any more", STATE, () -> x.send(1));
    }

    private static void emptyChannel() {
        Checks.same("11: a new object", new FrameCommutator().pending(), 0);
        FrameCommutator x = withBits(1);
        Checks.same("11: one bit", x.pending(), 1);
        x.receive(1);
        Checks.same("11: all bits are taken", x.pending(), 0);
        FrameCommutator y = Streams.full();
        y.setFrame(16, 1);
        Checks.same("2: the channel becomes empty", y.pending(), 0);
        FrameCommutator z = Streams.full();
        z.addParameter(1);
        Checks.same("3: the channel becomes empty", z.pending(), 0);
        z.undo();
        Checks.same("24: it is full again", z.pending(), MOST);
    }

    private static void fullChannel() {
        FrameCommutator x = Streams.full();
        Checks.same("11: a full channel", x.pending(), MOST);
        Checks.same("12: its first bit", x.bit(0), 1);
        Checks.same("12: its last bits", Streams.bits(x, MOST - 8, 8), Streams.word(85));
    }

    /** "IndexOutOfBoundsException if there is no such bit" */
    private static void bits() {
        for (int count : new int[] {0, 1, 2, MOST - 1, MOST}) {
            Bounds.range("12: " + count + " bits", () -> withBits(count), 0, count - 1, INDEX,
                    (x, index) -> x.bit(index));
        }
    }

    /** "IllegalArgumentException if kind is out of range" */
    private static void kinds() {
        Bounds.range("13: kind", () -> withBits(1), 0, 3, ARGUMENT, (x, kind) -> x.disturb(kind, 0));
        Bounds.range("13: kind in an almost full channel", () -> withBits(MOST - 1), 0, 3, ARGUMENT,
                (x, kind) -> x.disturb(kind, MOST - 2));
    }

    private static void indexesOfDisturb() {
        for (int kind = 0; kind < 4; kind++) {
            int used = kind;
            for (int count : new int[] {1, 2, 48}) {
                Bounds.range("13: kind " + kind + ", " + count + " bits", () -> withBits(count), 0, count - 1,
                        INDEX, (x, index) -> x.disturb(used, index));
            }
        }
    }

    private static void disturbEmptyChannel() {
        for (int kind = 0; kind < 4; kind++) {
            int used = kind;
            Bounds.range("13: kind " + kind + ", no bit", () -> withBits(0), 0, -1, INDEX,
                    (x, index) -> x.disturb(used, index));
            Bounds.range("13: kind " + kind + ", a new object", FrameCommutator::new, 0, -1, INDEX,
                    (x, index) -> x.disturb(used, index));
        }
    }

    /** "1 removes it" */
    private static void removeDownToNothing() {
        FrameCommutator x = withBits(8);
        for (int left = 7; left >= 0; left--) {
            Checks.same("13: remove the last", x.disturb(1, left), left);
        }
        Checks.refused(x, "13: nothing is left", INDEX, () -> x.disturb(1, 0));
        FrameCommutator y = withBits(8);
        for (int left = 7; left >= 0; left--) {
            Checks.same("13: the first", y.bit(0), (85 >> left) & 1);
            Checks.same("13: remove the first", y.disturb(1, 0), left);
        }
    }

    /** "2 inserts a 0 before it, 3 inserts a 1 before it" */
    private static void insertUpToTheLast() {
        for (int bit = 0; bit < 2; bit++) {
            FrameCommutator x = withBits(MOST - 1);
            Checks.same("13: the last place, before the last bit", x.disturb(2 + bit, MOST - 2), MOST);
            Checks.same("13: inserted before it", Streams.bits(x, MOST - 3, 3), "0" + bit + "1");
            FrameCommutator y = withBits(MOST - 1);
            Checks.same("13: the last place, before the first bit", y.disturb(2 + bit, 0), MOST);
            Checks.same("13: inserted as the first", Streams.bits(y, 0, 4), bit + "110");
            Checks.same("13: the last bit stays", y.bit(MOST - 1), 1);
        }
    }

    /** "if a bit is to be inserted and the channel has 2048 bits" */
    private static void fullChannelTakesNoBit() {
        for (int index : new int[] {0, 1, MOST / 2, MOST - 1}) {
            FrameCommutator x = Streams.full();
            Checks.refused(x, "13: a 0 before bit " + index, STATE, () -> x.disturb(2, index));
            Checks.refused(x, "13: a 1 before bit " + index, STATE, () -> x.disturb(3, index));
            Checks.same("13: flip bit " + index, x.disturb(0, index), MOST);
            Checks.same("13: remove bit " + index, x.disturb(1, index), MOST - 1);
            Checks.same("13: one place is free", x.disturb(3, 0), MOST);
            Checks.refused(x, "13: and no second", STATE, () -> x.disturb(3, 0));
        }
    }
}
