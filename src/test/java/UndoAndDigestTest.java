import java.util.function.Consumer;
import java.util.function.Function;

/** Promises 24 and 25: undo and digest. */
public final class UndoAndDigestTest {
    private static final Class<?> STATE = IllegalStateException.class;

    public static void main(String[] args) {
        undoOfEachMethod();
        undoOfCallsThatChangeNothing();
        undoBringsBackTheReceiver();
        undoBringsBackAPlan();
        undoneParametersLeaveNothing();
        fourStates();
        whatIsNotSaved();
        digestOfANewObject();
        digestOfAnObjectInUse();
        digestWithoutAPlan();
        digestBehindMisses();
        Checks.finish("UndoAndDigestTest");
    }

    /** An object that is nowhere as it began: an alarm, a miss, bits in the channel, 4 saved states. */
    private static FrameCommutator inUse() {
        FrameCommutator x = Streams.planned(1, -2);
        x.setMode(1);
        x.setLimits(0, 1, 5, 10);
        x.setLimits(1, 2, 7, 8);
        x.setPersistence(0, 2);
        x.setValue(0, 20);
        x.send(6);
        x.disturb(0, 144);
        x.receive(48 * 3 + 30);
        Checks.same("22: an alarm", x.hasAlarm(0), true);
        Checks.same("15: locked", x.receiverState(), 2);
        Checks.same("16: a miss", x.received(4), 1);
        return x;
    }

    /** The number of saved states comes last in the digest, so it can be taken off. */
    private static void undoes(String what, Function<FrameCommutator, Integer> call) {
        FrameCommutator x = inUse();
        long before = x.digest() - 4;
        call.apply(x);
        Checks.same("24: undo() of " + what, x.undo(), 3);
        Checks.same("24: digest behind undo of " + what, x.digest() - 3, before);
        Checks.same("24: the receiver goes on behind undo of " + what, x.receive(114), 3);
        Checks.same("24: with the bits behind undo of " + what, x.sample(0), 20);
        Checks.same("24: with the limits behind undo of " + what, x.alarms(0), 1);
    }

    private static void undoOfEachMethod() {
        undoes("setFrame", x -> x.setFrame(9, 8));
        undoes("addParameter", x -> x.addParameter(-8));
        undoes("plan", x -> x.plan());
        undoes("setValue", x -> x.setValue(1, 9));
        undoes("send", x -> x.send(5));
        for (int kind = 0; kind < 4; kind++) {
            int used = kind;
            undoes("disturb", x -> x.disturb(used, 40));
        }
        undoes("receive", x -> x.receive(100));
        undoes("setMode", x -> x.setMode(2));
        undoes("setLimits", x -> x.setLimits(1, 2, 3, 4));
        undoes("setPersistence", x -> x.setPersistence(1, 4));
    }

    private static void undoOfCallsThatChangeNothing() {
        FrameCommutator x = new FrameCommutator();
        x.setMode(0);
        x.setFrame(8, 4);
        x.plan();
        x.plan();
        Checks.same("24: four calls are saved", x.undo(), 3);
        Checks.same("24: the first plan stays", x.efficiency(), 0.0);
        Checks.same("24: three", x.undo(), 2);
        Checks.refused(x, "24: no plan", STATE, () -> x.efficiency());
        Checks.same("24: two", x.undo(), 1);
        Checks.same("24: one", x.undo(), 0);
        Checks.refused(x, "24: none", STATE, () -> x.undo());
    }

    private static void undoBringsBackTheReceiver() {
        String stream = Streams.lock() + Streams.frame(0, 7, 8, 9) + "0" + Streams.broken(1, 1, 2, 3)
                + Streams.frame(0, 4, 5, 6);
        for (int taken = 1; taken < stream.length(); taken++) {
            FrameCommutator x = Streams.loaded(stream);
            x.receive(taken);
            int first = x.receive(stream.length() - taken);
            long due = x.digest();
            x.undo();
            x.undo();
            x.receive(taken);
            x.setMode(1);
            x.undo();
            Checks.same("24: the rest again", x.receive(stream.length() - taken), first);
            Checks.same("24: what the rest comes to", x.sample(2), 6);
            x.setMode(0);
            x.setMode(0);
            Checks.same("24: the digest again", x.digest(), due);
        }
    }

    private static void undoBringsBackAPlan() {
        FrameCommutator x = Streams.planned(1, -2);
        x.send(1);
        x.addParameter(3);
        Checks.same("24: plan() fails", x.plan(), -10);
        Checks.refused(x, "24: there is no plan", STATE, () -> x.ownerOf(0, 3));
        x.undo();
        Checks.same("24: the owner is back", x.ownerOf(0, 4), 1);
        Checks.same("24: the bits are back", x.pending(), 48);
        Checks.same("24: the efficiency is back", x.efficiency(), 3.0 / 12.0);
        Checks.same("24: the sender goes on", x.send(1), 96);
        Checks.same("24: with minor frame 1", x.bit(48 + 23), 1);
    }

    private static void undoneParametersLeaveNothing() {
        undoneParameterLeavesNothing(x -> {
            x.setValue(1, 9);
            x.setLimits(1, 1, 3, 4);
            x.setPersistence(1, 4);
        });
        undoneParameterLeavesNothing(x -> {
            x.plan();
            x.send(3);
            x.receive(144);
            Checks.same("18: samples", x.samples(1), 2);
        });
    }

    /** Three calls use parameter 1: whatever an object still keeps of them must not come back. */
    private static void undoneParameterLeavesNothing(Consumer<FrameCommutator> use) {
        FrameCommutator x = Streams.planned(1);
        x.addParameter(1);
        use.accept(x);
        for (int i = 0; i < 4; i++) {
            x.undo();
        }
        for (int i = 0; i < 4; i++) {
            x.setMode(0);
        }
        for (int saves = 0; saves < 4; saves++) {
            for (int i = 0; i < saves; i++) {
                x.setMode(0);
            }
            x.undo();
            newParameterIsNew(x);
        }
    }

    /** Adds parameter 1, looks at it, and takes it away again. */
    private static void newParameterIsNew(FrameCommutator x) {
        Checks.same("24: another parameter 1", x.addParameter(2), 1);
        Checks.same("24: its sample", x.sample(1), -1);
        Checks.same("24: its samples", x.samples(1), 0);
        Checks.same("24: its alarm", x.hasAlarm(1), false);
        Checks.same("24: its alarms", x.alarms(1), 0);
        Checks.same("24: its rate", x.samplesPerMajor(1), 4);
        Checks.same("24: its value", x.setValue(1, 0), 0);
        x.undo();
        Checks.same("24: its limits", x.setLimits(1, 1, 0, 255), 255);
        x.undo();
        Checks.same("24: its persistence", x.setPersistence(1, 1), 1);
        x.undo();
        x.undo();
    }

    private static void fourStates() {
        FrameCommutator x = new FrameCommutator();
        x.addParameter(1);
        for (int value = 1; value <= 10; value++) {
            x.setValue(0, value);
        }
        Checks.same("24: the first undo", x.undo(), 3);
        Checks.same("24: the second undo", x.undo(), 2);
        Checks.same("24: 8 was the value, and 8 is saved again", x.setValue(0, 50), 8);
        Checks.same("24: undo of that", x.undo(), 2);
        Checks.same("24: 8 is back", x.setValue(0, 60), 8);
        Checks.same("24: undo once more", x.undo(), 2);
        Checks.same("24: the third undo", x.undo(), 1);
        Checks.same("24: the fourth undo", x.undo(), 0);
        Checks.refused(x, "24: the older ones are dropped", STATE, () -> x.undo());
        Checks.same("24: the value then", x.setValue(0, 0), 6);
        Checks.same("24: one is saved", x.undo(), 0);
    }

    private static void whatIsNotSaved() {
        FrameCommutator x = Streams.planned(1);
        x.addParameter(2);
        x.undo();
        x.undo();
        x.undo();
        Checks.same("24: nothing is saved", x.undo(), 0);
        x.addParameter(2);
        x.plan();
        x.pending();
        x.receiverState();
        x.received(0);
        x.sample(0);
        x.samples(0);
        x.samplesPerMajor(0);
        x.hasAlarm(0);
        x.alarms(0);
        x.digest();
        Checks.outcome(() -> x.setFrame(5, 5));
        Checks.outcome(() -> x.addParameter(9));
        Checks.outcome(() -> x.setValue(0, 999));
        Checks.outcome(() -> x.send(1));
        Checks.outcome(() -> x.receive(1));
        Checks.outcome(() -> x.disturb(0, 0));
        Checks.outcome(() -> x.setMode(3));
        Checks.outcome(() -> x.setLimits(0, 0, 2, 1));
        Checks.outcome(() -> x.setPersistence(0, 0));
        Checks.same("24: only addParameter is saved", x.undo(), 0);
    }

    private static long hash(long... values) {
        long hash = 2837;
        for (long value : values) {
            hash = 31 * hash + value;
        }
        return hash;
    }

    private static void digestOfANewObject() {
        Checks.same("25: a new object", new FrameCommutator().digest(),
                hash(8, 4, 0, 0, 0, 0, 0, 0, 0, 0, 0, 0, 0, 0, 0, 0));
    }

    private static void digestOfAnObjectInUse() {
        FrameCommutator x = Streams.planned(1, -2);
        x.setLimits(0, 0, 3, 10);
        x.setLimits(1, 2, 1, 250);
        x.setPersistence(0, 2);
        x.setMode(0);
        Streams.put(x, Streams.lock() + Streams.frame(0, 77, 30, 1) + Streams.broken(1, 99, 8, 7)
                + "1011", Streams.body(0, 0, 0, 85).substring(8));
        x.receive(192);
        x.setMode(2);
        Checks.same("25: an object in use", x.digest(), hash(6, 2, 2,
                1, 0, 99, 3, 3, 10, 0, 255, 0, 255, 2, 1, 2, 1,
                -2, 0, 30, 1, 0, 255, 0, 255, 1, 250, 1, 0, 0, 0,
                1, -1, -1, -1, 0, 1, -1, -1, -1, -1, 0, -1, -1,
                1, 4, 1, 0, 1, 1, 2, 1, 3, 0, 0, 0, 1, 1, 2, 4));
    }

    private static void digestBehindMisses() {
        FrameCommutator x = Streams.loadedWithoutParameters(Streams.lock()
                + Streams.broken(0, 85, 85, 85) + Streams.broken(1, 85, 85, 85));
        x.receive(192);
        Checks.same("25: two misses in a row", x.digest(), hash(6, 2, 0,
                1, -1, -1, -1, -1, -1, -1, -1, -1, -1, -1, -1, -1,
                0, 0, 2, 2, 3, 0, 0, 0, 2, 1, 0, 4));
        x.setFrame(7, 1);
        Checks.same("2: no misses in a row", x.digest(), hash(7, 1, 0,
                0, 0, 0, 0, 0, 3, 0, 0, 0, 2, 1, 0, 4));
    }

    private static void digestWithoutAPlan() {
        FrameCommutator x = new FrameCommutator();
        x.addParameter(-8);
        Checks.same("25: no plan", x.digest(), hash(8, 4, 1,
                -8, 0, -1, 0, 0, 255, 0, 255, 0, 255, 1, 0, 0, 0,
                0, 0, 0, 0, 0, 0, 0, 0, 0, 0, 0, 0, 1));
    }
}
