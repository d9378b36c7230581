/** Promises 9 to 13: values, sending, and the channel. */
public final class SendingTest {
    private static final Class<?> ARGUMENT = IllegalArgumentException.class;
    private static final Class<?> STATE = IllegalStateException.class;
    private static final Class<?> INDEX = IndexOutOfBoundsException.class;

    public static void main(String[] args) {
        setValue();
        sendWords();
        sendValuesOfTheMoment();
        sendGoesRound();
        sendUntilFull();
        sendWrongly();
        pending();
        bit();
        flip();
        remove();
        insert();
        disturbWrongly();
        disturbFullChannel();
        Checks.finish("SendingTest");
    }

    private static void setValue() {
        FrameCommutator x = Streams.plannedAs(6, 1, 1, 1);
        Checks.same("9: setValue(0, 255)", x.setValue(0, 255), 0);
        Checks.same("9: setValue(1, 7)", x.setValue(1, 7), 0);
        Checks.same("9: setValue(0, 0)", x.setValue(0, 0), 255);
        Checks.same("9: setValue(1, 7) again", x.setValue(1, 7), 7);
        Checks.refused(x, "9: value -1", ARGUMENT, () -> x.setValue(0, -1));
        Checks.refused(x, "9: value 256", ARGUMENT, () -> x.setValue(0, 256));
        Checks.refused(x, "9: parameter 2", INDEX, () -> x.setValue(2, 0));
        Checks.refused(x, "9: parameter -1", INDEX, () -> x.setValue(-1, 0));
        Checks.refused(x, "9: parameter 2 and value 256", INDEX, () -> x.setValue(2, 256));
        Checks.same("9: the plan stays", x.efficiency(), 2.0 / 6.0);
    }

    private static void sendWords() {
        FrameCommutator x = Streams.plannedAs(8, 2, 1, -2, -2);
        x.setValue(0, 129);
        x.setValue(1, 2);
        x.setValue(2, 254);
        Checks.same("10: send(2)", x.send(2), 128);
        Checks.same("10: the sync pattern", Streams.bits(x, 0, 16), "1110101110010000");
        Checks.same("10: minor frame 0", Streams.words(x, 0, 8), "235 144 0 129 2 85 85 85");
        Checks.same("10: minor frame 1", Streams.words(x, 64, 8), "235 144 1 129 254 85 85 85");
    }

    private static void sendValuesOfTheMoment() {
        FrameCommutator x = Streams.plannedAs(6, 1, 1);
        x.setValue(0, 10);
        x.send(1);
        x.setValue(0, 20);
        Checks.same("10: appended", x.send(1), 96);
        Checks.same("10: the first value", Streams.words(x, 0, 6), "235 144 0 10 85 85");
        Checks.same("10: the second value", Streams.words(x, 48, 6), "235 144 0 20 85 85");
    }

    private static void sendGoesRound() {
        for (int minors = 1; minors <= 8; minors *= 2) {
            FrameCommutator x = Streams.plannedAs(6, minors, 1);
            x.send(3);
            x.send(16);
            for (int i = 0; i < 19; i++) {
                int number = Integer.parseInt(Streams.bits(x, 48 * i + 16, 8), 2);
                Checks.same("10: minor frame " + i + " with M " + minors, number, i % minors);
            }
        }
    }

    private static void sendUntilFull() {
        FrameCommutator x = Streams.plannedAs(16, 1);
        Checks.same("10: send(16)", x.send(16), 2048);
        Checks.refused(x, "10: a full channel", STATE, () -> x.send(1));
        x.receive(127);
        Checks.refused(x, "10: one bit too few", STATE, () -> x.send(1));
        x.receive(1);
        Checks.same("10: room for one", x.send(1), 2048);
        FrameCommutator y = Streams.plannedAs(10, 1);
        Checks.same("10: 1280 bits", y.send(16), 1280);
        Checks.refused(y, "10: no part of them is sent", STATE, () -> y.send(10));
        Checks.same("10: 9 fit", y.send(9), 2000);
    }

    private static void sendWrongly() {
        FrameCommutator x = Streams.plannedAs(6, 1, 1);
        for (int count : new int[] {0, -1, 17, Integer.MAX_VALUE, Integer.MIN_VALUE}) {
            Checks.refused(x, "10: send(" + count + ")", ARGUMENT, () -> x.send(count));
        }
        FrameCommutator y = new FrameCommutator();
        Checks.refused(y, "10: no plan", STATE, () -> y.send(16));
        Checks.refused(y, "10: no plan and a wrong count", ARGUMENT, () -> y.send(17));
    }

    private static void pending() {
        FrameCommutator x = Streams.plannedAs(7, 1, 1);
        Checks.same("11: nothing", x.pending(), 0);
        x.send(3);
        Checks.same("11: sent", x.pending(), 168);
        x.receive(100);
        Checks.same("11: taken", x.pending(), 68);
        x.disturb(1, 0);
        Checks.same("11: lost", x.pending(), 67);
        x.disturb(2, 0);
        x.disturb(3, 0);
        Checks.same("11: added", x.pending(), 69);
        x.disturb(0, 0);
        Checks.same("11: flipped", x.pending(), 69);
    }

    private static void bit() {
        FrameCommutator x = Streams.plannedAs(6, 1, 1);
        Checks.refused(x, "12: an empty channel", INDEX, () -> x.bit(0));
        x.send(1);
        Checks.same("12: the bits", Streams.bits(x, 0, 48),
                "111010111001000000000000000000000101010101010101");
        Checks.refused(x, "12: bit -1", INDEX, () -> x.bit(-1));
        Checks.refused(x, "12: bit 48", INDEX, () -> x.bit(48));
        x.receive(3);
        Checks.same("12: the next one is bit 0", Streams.bits(x, 0, 9), "010111001");
        Checks.refused(x, "12: bit 45", INDEX, () -> x.bit(45));
    }

    private static void flip() {
        FrameCommutator x = Streams.plannedAs(6, 1, 1);
        x.send(1);
        Checks.same("13: flip the first", x.disturb(0, 0), 48);
        Checks.same("13: flip the last", x.disturb(0, 47), 48);
        Checks.same("13: flip a 0", x.disturb(0, 3), 48);
        Checks.same("13: flipped", Streams.bits(x, 0, 48),
                "011110111001000000000000000000000101010101010100");
        x.disturb(0, 3);
        Checks.same("13: flipped back", Streams.bits(x, 0, 4), "0110");
    }

    private static void remove() {
        FrameCommutator x = Streams.plannedAs(6, 1, 1);
        x.send(1);
        Checks.same("13: remove the last", x.disturb(1, 47), 47);
        Checks.same("13: remove the first", x.disturb(1, 0), 46);
        Checks.same("13: remove one between", x.disturb(1, 5), 45);
        Checks.same("13: removed", Streams.bits(x, 0, 45),
                "110101100100000000000000000000010101010101010");
        FrameCommutator y = Streams.plannedAs(6, 1, 1);
        y.send(1);
        y.receive(47);
        Checks.same("13: remove the only bit", y.disturb(1, 0), 0);
        Checks.refused(y, "13: nothing is left", INDEX, () -> y.disturb(1, 0));
    }

    private static void insert() {
        FrameCommutator x = Streams.plannedAs(6, 1, 1);
        x.send(1);
        Checks.same("13: insert 0 before the first", x.disturb(2, 0), 49);
        Checks.same("13: insert 1 before the last", x.disturb(3, 48), 50);
        Checks.same("13: insert 1 between", x.disturb(3, 4), 51);
        Checks.same("13: inserted", Streams.bits(x, 0, 51),
                "011110101110010000000000000000000001010101010101011");
    }

    private static void disturbWrongly() {
        FrameCommutator x = Streams.plannedAs(6, 1, 1);
        Checks.refused(x, "13: an empty channel", INDEX, () -> x.disturb(2, 0));
        x.send(1);
        Checks.refused(x, "13: kind -1", ARGUMENT, () -> x.disturb(-1, 0));
        Checks.refused(x, "13: kind 4", ARGUMENT, () -> x.disturb(4, 0));
        Checks.refused(x, "13: kind 4, and no such bit", ARGUMENT, () -> x.disturb(4, 48));
        for (int kind = 0; kind < 4; kind++) {
            int used = kind;
            Checks.refused(x, "13: bit 48", INDEX, () -> x.disturb(used, 48));
            Checks.refused(x, "13: bit -1", INDEX, () -> x.disturb(used, -1));
        }
    }

    private static void disturbFullChannel() {
        FrameCommutator x = Streams.plannedAs(16, 1);
        x.send(16);
        Checks.refused(x, "13: insert 0", STATE, () -> x.disturb(2, 0));
        Checks.refused(x, "13: insert 1", STATE, () -> x.disturb(3, 2047));
        Checks.refused(x, "13: insert at no bit", INDEX, () -> x.disturb(3, 2048));
        Checks.same("13: flip", x.disturb(0, 2047), 2048);
        Checks.same("13: flipped", x.bit(2047), 0);
        Checks.same("13: remove", x.disturb(1, 2047), 2047);
        Checks.same("13: insert before the last", x.disturb(3, 2046), 2048);
        Checks.same("13: inserted", Streams.bits(x, 2040, 8), "01010110");
    }
}
