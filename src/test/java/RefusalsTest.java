import java.util.List;
import java.util.function.Function;
import java.util.function.Supplier;

/** The sentences of "Exceptions": what is thrown first, and that it changes nothing. */
public final class RefusalsTest {
    private static final Class<?> ARGUMENT = IllegalArgumentException.class;
    private static final Class<?> STATE = IllegalStateException.class;
    private static final Class<?> INDEX = IndexOutOfBoundsException.class;
    private static final String STREAM = Streams.lock() + Streams.frame(0, 7, 8, 9) + "0"
            + Streams.broken(1, 1, 2, 3) + Streams.frame(0, 4, 5, 6);

    private static final List<Function<FrameCommutator, Object>> ALWAYS_REFUSED = List.of(
            x -> x.setFrame(5, 2), x -> x.setFrame(6, 3), x -> x.addParameter(0), x -> x.slot(99, 0, 0),
            x -> x.samplesPerMajor(-1), x -> x.ownerOf(9, 0), x -> x.setValue(99, 0), x -> x.setValue(0, 256),
            x -> x.send(0), x -> x.send(17), x -> x.bit(2048), x -> x.disturb(4, 0), x -> x.disturb(1, 2048),
            x -> x.receive(0), x -> x.receive(2049), x -> x.received(6), x -> x.sample(99),
            x -> x.samples(-1), x -> x.setMode(3), x -> x.setLimits(0, 3, 0, 0), x -> x.setLimits(0, 0, 2, 1),
            x -> x.setPersistence(0, 6), x -> x.hasAlarm(-1), x -> x.alarms(99));

    public static void main(String[] args) {
        addParameterFirst();
        slotFirst();
        ownerOfFirst();
        setValueFirst();
        sendFirst();
        disturbFirst();
        receiveFirst();
        setLimitsFirst();
        setPersistenceFirst();
        noTraceInAStream();
        noTraceInAFullChannel();
        noTraceWithTwelveParameters();
        noTraceWithoutAPlan();
        Checks.finish("RefusalsTest");
    }

    private static void first(String what, FrameCommutator x, Class<?> due,
            Function<FrameCommutator, Object> call) {
        Checks.refused(x, what, due, () -> call.apply(x));
    }

    private static FrameCommutator unplanned() {
        return Streams.withRates(6, 2, 1);
    }

    private static void addParameterFirst() {
        FrameCommutator x = Streams.withRates(6, 2, Streams.times(12, 1));
        first("3: a wrong rate and 12 parameters", x, ARGUMENT, y -> y.addParameter(5));
        first("3: 12 parameters", x, STATE, y -> y.addParameter(4));
    }

    private static void slotFirst() {
        FrameCommutator x = unplanned();
        first("6: parameter, what and plan", x, INDEX, y -> y.slot(1, 0, 2));
        first("6: parameter and plan", x, INDEX, y -> y.slot(-1, 0, 1));
        first("6: what and plan", x, ARGUMENT, y -> y.slot(0, 0, 2));
        first("6: plan", x, STATE, y -> y.slot(0, 0, 1));
        x.plan();
        first("6: parameter, what and sample", x, INDEX, y -> y.slot(1, 2, -1));
        first("6: parameter and sample", x, INDEX, y -> y.slot(1, 2, 1));
        first("6: what and sample", x, ARGUMENT, y -> y.slot(0, 2, -1));
        first("6: sample", x, STATE, y -> y.slot(0, 2, 1));
    }

    private static void ownerOfFirst() {
        FrameCommutator x = unplanned();
        first("7: minor frame and plan", x, INDEX, y -> y.ownerOf(2, 0));
        first("7: word and plan", x, INDEX, y -> y.ownerOf(0, -1));
        first("7: minor frame, word and plan", x, INDEX, y -> y.ownerOf(-1, 6));
        first("7: plan", x, STATE, y -> y.ownerOf(1, 5));
    }

    private static void setValueFirst() {
        first("9: parameter and value", unplanned(), INDEX, y -> y.setValue(1, 256));
        first("9: value", unplanned(), ARGUMENT, y -> y.setValue(0, 256));
    }

    private static void sendFirst() {
        first("10: count and plan", unplanned(), ARGUMENT, y -> y.send(17));
        first("10: count 0 and plan", unplanned(), ARGUMENT, y -> y.send(0));
        first("10: plan", unplanned(), STATE, y -> y.send(16));
        first("10: count and a full channel", Streams.full(), ARGUMENT, y -> y.send(17));
        first("10: a full channel", Streams.full(), STATE, y -> y.send(16));
    }

    private static void disturbFirst() {
        first("13: kind, and no bit at all", new FrameCommutator(), ARGUMENT, y -> y.disturb(4, 0));
        first("13: kind and bit", Streams.full(), ARGUMENT, y -> y.disturb(-1, 2048));
        first("13: bit and a full channel", Streams.full(), INDEX, y -> y.disturb(2, 2048));
        first("13: bit -1 and a full channel", Streams.full(), INDEX, y -> y.disturb(3, -1));
        first("13: a full channel", Streams.full(), STATE, y -> y.disturb(3, 2047));
    }

    private static void receiveFirst() {
        first("14: count and plan", unplanned(), ARGUMENT, y -> y.receive(2049));
        first("14: count 0 and plan", unplanned(), ARGUMENT, y -> y.receive(0));
        first("14: count and fewer bits", Streams.full(), ARGUMENT, y -> y.receive(2049));
        first("14: fewer bits", Streams.planned(1), STATE, y -> y.receive(2048));
    }

    private static void setLimitsFirst() {
        first("20: parameter and mode", unplanned(), INDEX, y -> y.setLimits(1, 3, 0, 0));
        first("20: parameter and low", unplanned(), INDEX, y -> y.setLimits(1, 0, -1, 0));
        first("20: parameter and high", unplanned(), INDEX, y -> y.setLimits(-1, 0, 0, 256));
        first("20: mode and limits", unplanned(), ARGUMENT, y -> y.setLimits(0, 3, 2, 1));
    }

    private static void setPersistenceFirst() {
        first("21: parameter and persistence", unplanned(), INDEX, y -> y.setPersistence(1, 0));
        first("21: persistence", unplanned(), ARGUMENT, y -> y.setPersistence(0, 0));
    }

    /** Compares an object that refused calls with its twin, now, then behind more calls, then undone. */
    private static void noTrace(String what, Supplier<FrameCommutator> maker,
            List<Function<FrameCommutator, Object>> refused, Function<FrameCommutator, Object> more) {
        FrameCommutator x = maker.get();
        FrameCommutator twin = maker.get();
        for (Function<FrameCommutator, Object> call : refused) {
            Checks.same(what + ": refused", Checks.outcome(() -> call.apply(x)) instanceof Class, true);
        }
        Checks.same(what + ": as before", x.digest(), twin.digest());
        Checks.same(what + ": more calls", more.apply(x), more.apply(twin));
        for (int saved = 3; saved >= 0; saved--) {
            Checks.same(what + ": as its twin", x.digest(), twin.digest());
            Checks.same(what + ": undo()", x.undo(), saved);
            twin.undo();
        }
        Checks.same(what + ": all undone", x.digest(), twin.digest());
        Checks.refused(x, what + ": nothing is left", STATE, () -> x.undo());
    }

    /** "A call that throws an exception changes nothing.", wherever the receiver is. */
    private static void noTraceInAStream() {
        for (int taken = 1; taken < STREAM.length(); taken++) {
            int count = taken;
            Supplier<FrameCommutator> maker = () -> {
                FrameCommutator x = Streams.loaded(STREAM);
                x.receive(count);
                return x;
            };
            noTrace("behind " + taken + " bits", maker, ALWAYS_REFUSED,
                    x -> x.receive(STREAM.length() - count));
        }
    }

    private static void noTraceInAFullChannel() {
        noTrace("a full channel", Streams::full, List.of(x -> x.send(1), x -> x.send(16),
                x -> x.disturb(2, 0), x -> x.disturb(3, 2047), x -> x.disturb(0, 2048)), x -> {
            x.receive(1);
            return x.receive(2047);
        });
    }

    private static void noTraceWithTwelveParameters() {
        noTrace("12 parameters", () -> Streams.plannedAs(15, 1, Streams.times(12, 1)),
                List.of(x -> x.addParameter(1), x -> x.addParameter(-8), x -> x.setValue(12, 1)),
                x -> x.send(16));
    }

    private static void noTraceWithoutAPlan() {
        Supplier<FrameCommutator> maker = () -> {
            FrameCommutator x = Streams.loaded(STREAM);
            x.receive(100);
            x.addParameter(-8);
            return x;
        };
        noTrace("no plan", maker, List.of(x -> x.send(1), x -> x.receive(1), x -> x.slot(0, 0, 0),
                x -> x.ownerOf(0, 0), x -> x.efficiency(), x -> x.bit(0), x -> x.disturb(2, 0)), x -> {
            x.undo();
            return x.receive(STREAM.length() - 100);
        });
    }
}
