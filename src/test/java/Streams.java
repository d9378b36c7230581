import java.util.Arrays;

/** Bits for the receiver, written as texts of 0 and 1, for minor frames of 6 words and M = 2. */
final class Streams {
    static final String SYNC = "1110101110010000";
    private static final int FRAME_BITS = 48;
    private static final String FREE = word(85);

    private Streams() {
    }

    static String word(int value) {
        return Integer.toBinaryString(256 + value).substring(1);
    }

    /** The words 2 to 5. */
    static String body(int number, int a, int b, int c) {
        return word(number) + word(a) + word(b) + word(c);
    }

    static String frame(int number, int a, int b, int c) {
        return SYNC + body(number, a, b, c);
    }

    /** A minor frame whose sync pattern has one wrong bit. */
    static String broken(int number, int a, int b, int c) {
        return "1111" + SYNC.substring(4) + body(number, a, b, c);
    }

    /** Two minor frames: the receiver is locked behind them, and the second one is delivered. */
    static String lock() {
        return frame(0, 1, 2, 3) + frame(1, 4, 5, 6);
    }

    static FrameCommutator withRates(int words, int minors, int... rates) {
        FrameCommutator x = new FrameCommutator();
        x.setFrame(words, minors);
        for (int rate : rates) {
            x.addParameter(rate);
        }
        return x;
    }

    static FrameCommutator plannedAs(int words, int minors, int... rates) {
        FrameCommutator x = withRates(words, minors, rates);
        x.plan();
        return x;
    }

    static FrameCommutator planned(int... rates) {
        return plannedAs(6, 2, rates);
    }

    /** A channel of 2048 bits: 16 minor frames of 16 words without a parameter. */
    static FrameCommutator full() {
        FrameCommutator x = plannedAs(16, 1);
        x.send(16);
        return x;
    }

    /** The same rate again and again. */
    static int[] times(int count, int rate) {
        int[] rates = new int[count];
        Arrays.fill(rates, rate);
        return rates;
    }

    static String bits(FrameCommutator x, int from, int count) {
        StringBuilder bits = new StringBuilder();
        for (int i = 0; i < count; i++) {
            bits.append(x.bit(from + i));
        }
        return bits.toString();
    }

    /** The words of a minor frame that begins at a bit of the channel. */
    static String words(FrameCommutator x, int from, int count) {
        StringBuilder words = new StringBuilder();
        for (int i = 0; i < count; i++) {
            words.append(i == 0 ? "" : " ").append(Integer.parseInt(bits(x, from + 8 * i, 8), 2));
        }
        return words.toString();
    }

    /** Three parameters, one a column, and a channel that holds just these bits. */
    static FrameCommutator loaded(String stream) {
        FrameCommutator x = planned(1, 1, 1);
        put(x, stream, body(0, 0, 0, 0).substring(8));
        return x;
    }

    /** The same with no parameter at all: the columns are free. */
    static FrameCommutator loadedWithoutParameters(String stream) {
        FrameCommutator x = planned();
        put(x, stream, FREE + FREE + FREE);
        return x;
    }

    /** Fills the empty channel of a sender that begins with 0 and sends these columns. */
    static void put(FrameCommutator x, String stream, String columns) {
        int frames = (stream.length() + FRAME_BITS - 1) / FRAME_BITS;
        StringBuilder sent = new StringBuilder();
        for (int i = 0; i < frames; i++) {
            sent.append(SYNC).append(word(i % 2)).append(columns);
        }
        x.send(frames);
        for (int i = 0; i < stream.length(); i++) {
            if (sent.charAt(i) != stream.charAt(i)) {
                x.disturb(0, i);
            }
        }
        for (int i = sent.length() - 1; i >= stream.length(); i--) {
            x.disturb(1, i);
        }
    }

    /** A receiver that is locked, with one parameter in each minor frame. */
    static FrameCommutator locked() {
        FrameCommutator x = planned(1);
        x.send(2);
        x.receive(96);
        return x;
    }

    static void feed(FrameCommutator x, int... values) {
        for (int value : values) {
            x.setValue(0, value);
            x.send(1);
            Checks.same("14: a sample", x.receive(48), 1);
        }
    }
}
