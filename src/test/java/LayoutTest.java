/** Promises 1 to 8: the new object, the layout of the frame, parameters and the plan. */
public final class LayoutTest {
    private static final Class<?> ARGUMENT = IllegalArgumentException.class;
    private static final Class<?> STATE = IllegalStateException.class;
    private static final Class<?> INDEX = IndexOutOfBoundsException.class;
    private static final int NONE = FrameCommutator.NONE;

    public static void main(String[] args) {
        newObject();
        newReceiver();
        setFrame();
        setFrameRestartsTheLink();
        setFrameKeepsWhatWasReceived();
        addParameter();
        addParameterRestartsTheLink();
        thirteenthParameter();
        planOrder();
        planOfSupercommutation();
        planOfSubcommutation();
        planThatFails();
        planKeepsTheLink();
        samplesPerMajor();
        slot();
        ownerOf();
        efficiency();
        Checks.finish("LayoutTest");
    }

    /** The owners of the data words of all minor frames: a letter a parameter, a point if free. */
    private static String map(FrameCommutator x, int words, int minors) {
        StringBuilder map = new StringBuilder();
        for (int minor = 0; minor < minors; minor++) {
            map.append(minor == 0 ? "" : " ");
            for (int word = 3; word < words; word++) {
                int owner = x.ownerOf(minor, word);
                map.append(owner == NONE ? '.' : (char) ('A' + owner));
            }
        }
        return map.toString();
    }

    private static void newObject() {
        FrameCommutator x = new FrameCommutator();
        Checks.same("NONE", NONE, -1);
        Checks.same("1: pending()", x.pending(), 0);
        Checks.same("1: receiverState()", x.receiverState(), 0);
        for (int what = 0; what < 6; what++) {
            Checks.same("1: received(" + what + ")", x.received(what), 0);
        }
        Checks.refused(x, "1: there is no parameter", INDEX, () -> x.sample(0));
        Checks.refused(x, "1: there is no plan", STATE, () -> x.efficiency());
        Checks.refused(x, "1: there is no bit", INDEX, () -> x.bit(0));
        Checks.refused(x, "1: nothing is saved", STATE, () -> x.undo());
        Checks.same("1: the mode", x.setMode(0), 0);
        Checks.same("1: plan() without parameters", x.plan(), 0);
        Checks.same("1: W and M", map(x, 8, 4), "..... ..... ..... .....");
        Checks.refused(x, "1: W is 8", INDEX, () -> x.ownerOf(3, 8));
        Checks.refused(x, "1: M is 4", INDEX, () -> x.ownerOf(4, 7));
    }

    private static void newReceiver() {
        FrameCommutator x = new FrameCommutator();
        x.plan();
        x.send(2);
        x.disturb(1, 0);
        x.receive(63);
        Checks.same("1: no bits are taken at first", x.receiverState(), 0);
        x.receive(16);
        Checks.same("1: a whole pattern", x.receiverState(), 1);
    }

    private static void setFrame() {
        FrameCommutator x = new FrameCommutator();
        for (int words = 6; words <= 16; words++) {
            for (int minors = 1; minors <= 8; minors *= 2) {
                Checks.same("2: setFrame", x.setFrame(words, minors), words * minors);
            }
        }
        Checks.refused(x, "2: setFrame(5, 4)", ARGUMENT, () -> x.setFrame(5, 4));
        Checks.refused(x, "2: setFrame(17, 4)", ARGUMENT, () -> x.setFrame(17, 4));
        Checks.refused(x, "2: setFrame(-8, 4)", ARGUMENT, () -> x.setFrame(-8, 4));
        for (int minors : new int[] {0, 3, 5, 6, 7, 9, 16, -1, -2, Integer.MIN_VALUE}) {
            Checks.refused(x, "2: setFrame(8, " + minors + ")", ARGUMENT, () -> x.setFrame(8, minors));
        }
        x.setFrame(9, 2);
        x.plan();
        Checks.same("2: the layout holds", map(x, 9, 2), "...... ......");
        Checks.refused(x, "2: W holds", INDEX, () -> x.ownerOf(0, 9));
        Checks.refused(x, "2: M holds", INDEX, () -> x.ownerOf(2, 0));
    }

    private static FrameCommutator withLinkInUse() {
        FrameCommutator x = Streams.withRates(6, 2, 1);
        x.setValue(0, 77);
        x.plan();
        x.send(5);
        x.receive(2 * 48 + 20);
        return x;
    }

    private static void setFrameRestartsTheLink() {
        FrameCommutator x = withLinkInUse();
        x.setFrame(6, 2);
        Checks.refused(x, "2: no plan, even with the same layout", STATE, () -> x.efficiency());
        Checks.same("2: the channel is empty", x.pending(), 0);
        Checks.same("2: the receiver searches", x.receiverState(), 0);
        x.plan();
        x.send(3);
        Checks.same("2: minor frame 0 comes first", x.bit(23), 0);
        Checks.same("2: then minor frame 1", x.bit(48 + 23), 1);
        Checks.same("2: the first minor frame is searched anew", x.receive(96), 1);
        Checks.same("2: the next one is delivered", x.receive(48), 1);
    }

    private static void setFrameKeepsWhatWasReceived() {
        FrameCommutator x = withLinkInUse();
        Checks.same("2: delivered before", x.received(0), 1);
        x.setFrame(7, 4);
        Checks.same("2: counts stay", x.received(0), 1);
        Checks.same("2: checks stay", x.received(5), 1);
        Checks.same("2: samples stay", x.samples(0), 1);
        Checks.same("2: the latest sample stays", x.sample(0), 77);
        Checks.same("2: the value stays", x.setValue(0, 1), 77);
    }

    private static void addParameter() {
        FrameCommutator x = new FrameCommutator();
        int[] rates = {1, 2, 3, 4, -2, -4, -8};
        for (int i = 0; i < rates.length; i++) {
            Checks.same("3: addParameter(" + rates[i] + ")", x.addParameter(rates[i]), i);
        }
        for (int rate : new int[] {0, 5, 8, -1, -3, -5, -6, -7, -9, -16, Integer.MIN_VALUE}) {
            Checks.refused(x, "3: addParameter(" + rate + ")", ARGUMENT, () -> x.addParameter(rate));
        }
        Checks.same("3: initial value", x.setValue(3, 9), 0);
        Checks.same("3: initial sample", x.sample(3), NONE);
        Checks.same("3: initial samples", x.samples(3), 0);
        Checks.same("3: initial persistence", x.setPersistence(3, 2), 1);
        for (int mode = 0; mode < 3; mode++) {
            Checks.same("3: initial limits", x.setLimits(3, mode, 1, 2), 255);
        }
        Checks.same("3: initial alarm", x.hasAlarm(3), false);
        Checks.same("3: initial alarms", x.alarms(3), 0);
    }

    private static void addParameterRestartsTheLink() {
        FrameCommutator x = withLinkInUse();
        Checks.same("3: number", x.addParameter(1), 1);
        Checks.refused(x, "3: no plan", STATE, () -> x.ownerOf(0, 0));
        Checks.same("3: the channel is empty", x.pending(), 0);
        Checks.same("3: the receiver searches", x.receiverState(), 0);
        x.plan();
        x.send(2);
        Checks.same("3: minor frame 0 comes first", x.bit(23), 0);
        Checks.same("3: nothing is left of the bits before", x.receive(96), 1);
        Checks.same("3: it locks", x.receiverState(), 2);
        Checks.same("3: counts stay", x.received(0), 2);
        Checks.same("3: it checked again", x.received(5), 2);
    }

    private static void thirteenthParameter() {
        FrameCommutator x = new FrameCommutator();
        for (int i = 0; i < 12; i++) {
            Checks.same("3: addParameter", x.addParameter(-8), i);
        }
        Checks.refused(x, "3: a thirteenth", STATE, () -> x.addParameter(1));
        Checks.refused(x, "3: a thirteenth with a wrong rate", ARGUMENT, () -> x.addParameter(0));
        Checks.same("3: a call with twelve", x.setMode(0), 0);
        Checks.same("3: undo of that", x.undo(), 3);
        Checks.same("3: undo makes room", x.undo(), 2);
        Checks.same("3: for another twelfth", x.addParameter(1), 11);
    }

    private static void planOrder() {
        FrameCommutator x = Streams.withRates(9, 4, -4, 1, -2, 1, 2, 1);
        Checks.same("4: plan()", x.plan(), 23);
        Checks.same("4: descending samples, then ascending numbers", map(x, 9, 4),
                "EBDEFC EBDEFA EBDEFC EBDEF.");
    }

    private static void planOfSupercommutation() {
        FrameCommutator x = Streams.withRates(15, 1, 2, 4, 1);
        Checks.same("4: plan() with 4, 2 and 1", x.plan(), 7);
        Checks.same("4: 4, 2 and 1 in 12 columns", map(x, 15, 1), "BACB..BA.B..");
        FrameCommutator y = Streams.withRates(15, 2, 2, 3);
        Checks.same("4: plan() with 3 and 2", y.plan(), 10);
        Checks.same("4: 3 and 2 in 12 columns", map(y, 15, 2), "BA..B..AB... BA..B..AB...");
        FrameCommutator z = Streams.withRates(15, 2, 2, 2, 2, 2, 2, 2);
        Checks.same("4: plan() with 2 six times", z.plan(), 24);
        Checks.same("4: 2 six times in 12 columns", map(z, 15, 2), "ABCDEFABCDEF ABCDEFABCDEF");
    }

    private static void planOfSubcommutation() {
        FrameCommutator x = Streams.withRates(6, 8, -8, -2, -4, -8, -4);
        Checks.same("4: plan()", x.plan(), 10);
        Checks.same("4: minor frames share columns", map(x, 6, 8),
                "BA. CD. B.. E.. B.. C.. B.. E..");
        FrameCommutator y = Streams.withRates(6, 2, 1, 1, -2, -2);
        Checks.same("4: plan() of a full frame", y.plan(), 6);
        Checks.same("4: a full frame", map(y, 6, 2), "ABC ABD");
        FrameCommutator z = Streams.withRates(6, 8, -2, 1);
        Checks.same("4: plan() with 1 behind -2", z.plan(), 12);
        Checks.same("4: 1 is placed before -2", map(z, 6, 8), "BA. B.. BA. B.. BA. B.. BA. B..");
    }

    private static void failsToPlan(String what, int due, FrameCommutator x) {
        long before = x.digest();
        Checks.same("4: plan() " + what, x.plan(), due);
        Checks.same("4: nothing changes " + what, x.digest(), before);
        Checks.refused(x, "4: no plan " + what, STATE, () -> x.efficiency());
    }

    private static void planThatFails() {
        failsToPlan("if D is not divisible by 2", -10, Streams.withRates(8, 4, 2));
        failsToPlan("if D is not divisible by 4", -11, Streams.withRates(9, 4, 2, 4));
        failsToPlan("if D is less than r", -10, Streams.withRates(6, 4, 4));
        failsToPlan("if M is less than q", -10, Streams.withRates(8, 4, -8));
        failsToPlan("if M is 1 and q is 2", -11, Streams.withRates(8, 1, 1, -2));
        failsToPlan("without a free column", -13, Streams.withRates(6, 1, 1, 1, 1, 1));
        failsToPlan("if 3 and 2 meet", -11, Streams.withRates(9, 2, 3, 2));
        failsToPlan("if 3, 3 and 2 meet", -10, Streams.withRates(15, 2, 2, 3, 3));
        failsToPlan("if 4 and 3 meet", -11, Streams.withRates(15, 2, 4, 3));
        failsToPlan("without a place for -2", -13, Streams.withRates(6, 2, 1, 1, 1, -2));
        failsToPlan("without a place for a third -2", -14, Streams.withRates(6, 2, 1, 1, -2, -2, -2));
        failsToPlan("names the first in the order of placing", -12, Streams.withRates(6, 2, 1, -8, 2));
        failsToPlan("names the later one if the first fits", -11, Streams.withRates(7, 2, 1, -8, 2));
        FrameCommutator x = Streams.withRates(6, 2, 2);
        failsToPlan("at first", -10, x);
        x.setFrame(7, 2);
        Checks.same("4: plan() with another layout", x.plan(), 4);
    }

    private static void planKeepsTheLink() {
        FrameCommutator x = withLinkInUse();
        int before = x.pending();
        Checks.same("4: plan() again", x.plan(), 2);
        Checks.same("4: the channel stays", x.pending(), before);
        Checks.same("4: the receiver stays", x.receiverState(), 2);
        Checks.same("4: the sender goes on", x.send(1), before + 48);
        Checks.same("4: with minor frame 1", x.bit(before + 23), 1);
        Checks.same("4: the receiver goes on", x.receive(28), 1);
    }

    private static void samplesPerMajor() {
        int[] rates = {1, 2, 3, 4, -2, -4, -8};
        int[][] due = {{1, 1, 2, 3, 4, 0, 0, 0}, {2, 2, 4, 6, 8, 1, 0, 0}, {4, 4, 8, 12, 16, 2, 1, 0},
            {8, 8, 16, 24, 32, 4, 2, 1}};
        for (int[] row : due) {
            FrameCommutator x = Streams.withRates(8, row[0], rates);
            for (int i = 0; i < rates.length; i++) {
                Checks.same("5: rate " + rates[i] + ", M " + row[0], x.samplesPerMajor(i), row[i + 1]);
            }
            Checks.refused(x, "5: parameter -1", INDEX, () -> x.samplesPerMajor(-1));
            Checks.refused(x, "5: parameter 7", INDEX, () -> x.samplesPerMajor(7));
        }
    }

    private static void slotIs(FrameCommutator x, int parameter, int sample, int minor, int word) {
        String what = "6: slot(" + parameter + ", " + sample + ", ";
        Checks.same(what + "0)", x.slot(parameter, sample, 0), minor);
        Checks.same(what + "1)", x.slot(parameter, sample, 1), word);
    }

    private static void slot() {
        FrameCommutator x = Streams.withRates(9, 2, 1, 2, -2, -2);
        Checks.refused(x, "6: no plan", STATE, () -> x.slot(0, 0, 0));
        x.plan();
        slotIs(x, 0, 0, 0, 4);
        slotIs(x, 0, 1, 1, 4);
        slotIs(x, 1, 0, 0, 3);
        slotIs(x, 1, 1, 0, 6);
        slotIs(x, 1, 2, 1, 3);
        slotIs(x, 1, 3, 1, 6);
        slotIs(x, 2, 0, 0, 5);
        slotIs(x, 3, 0, 1, 5);
        Checks.refused(x, "6: sample 4", STATE, () -> x.slot(1, 4, 0));
        Checks.refused(x, "6: sample -1", STATE, () -> x.slot(1, -1, 0));
        Checks.refused(x, "6: sample 1 of one", STATE, () -> x.slot(3, 1, 1));
        Checks.refused(x, "6: a huge sample", STATE, () -> x.slot(3, Integer.MAX_VALUE, 1));
        Checks.refused(x, "6: what 2", ARGUMENT, () -> x.slot(0, 9, 2));
        Checks.refused(x, "6: what -1", ARGUMENT, () -> x.slot(0, 9, -1));
        Checks.refused(x, "6: parameter 4", INDEX, () -> x.slot(4, 0, 2));
        Checks.refused(x, "6: parameter -1", INDEX, () -> x.slot(-1, 0, 0));
        FrameCommutator full = Streams.withRates(16, 8, 1);
        full.plan();
        slotIs(full, 0, 7, 7, 3);
    }

    private static void ownerOf() {
        FrameCommutator x = Streams.withRates(6, 2, -2, 1);
        Checks.refused(x, "7: no plan", STATE, () -> x.ownerOf(0, 0));
        Checks.refused(x, "7: no such word, and no plan", INDEX, () -> x.ownerOf(0, 6));
        Checks.refused(x, "7: no such minor frame, and no plan", INDEX, () -> x.ownerOf(2, 0));
        x.plan();
        int[][] due = {{NONE, NONE, NONE, 1, 0, NONE}, {NONE, NONE, NONE, 1, NONE, NONE}};
        for (int minor = 0; minor < 2; minor++) {
            for (int word = 0; word < 6; word++) {
                Checks.same("7: ownerOf(" + minor + ", " + word + ")", x.ownerOf(minor, word),
                        due[minor][word]);
            }
        }
        Checks.refused(x, "7: minor frame -1", INDEX, () -> x.ownerOf(-1, 5));
        Checks.refused(x, "7: minor frame 2", INDEX, () -> x.ownerOf(2, 5));
        Checks.refused(x, "7: word -1", INDEX, () -> x.ownerOf(0, -1));
        Checks.refused(x, "7: word 6", INDEX, () -> x.ownerOf(1, 6));
    }

    private static void efficiency() {
        FrameCommutator x = Streams.withRates(9, 4, 1, 2, -2, -4, -4);
        Checks.refused(x, "8: no plan", STATE, () -> x.efficiency());
        x.plan();
        Checks.same("8: efficiency()", x.efficiency(), 16.0 / 36.0);
        FrameCommutator full = Streams.withRates(6, 1, 3);
        full.plan();
        Checks.same("8: all columns", full.efficiency(), 0.5);
        FrameCommutator none = Streams.withRates(16, 8);
        none.plan();
        Checks.same("8: no parameter", none.efficiency(), 0.0);
        FrameCommutator third = Streams.withRates(15, 2, 4, 1);
        third.plan();
        Checks.same("8: a third", third.efficiency(), 10.0 / 30.0);
    }
}
