import java.util.LinkedHashMap;
import java.util.Map;
import java.util.function.Consumer;

/** Sentences of promises 24 and 25, and of "Undo", that name a boundary case; and the 512 calls. */
public final class UndoBoundsTest {
    private static final Class<?> STATE = IllegalStateException.class;
    private static final int MOST = 4;

    public static void main(String[] args) {
        nothingIsSaved();
        savedOneByOne();
        fifthState();
        oldestIsDroppedFirst();
        undoIsNotSaved();
        savedBehindAnUndo();
        callsThatChangeNothingAreSaved();
        callsThatOnlyTellAreNotSaved();
        refusedCallsDropNothing();
        planThatFailsDropsNothing();
        undoOfTheFirstCall();
        undoOfFourReceives();
        digestCountsTheSavedStates();
        digestOfTwelveParameters();
        digestOfAFullChannel();
        fiveHundredTwelveCalls();
        Checks.finish("UndoBoundsTest");
    }

    /** Calls that are undoable, each as one that leaves all but the saved states as it is. */
    private static Map<String, Consumer<FrameCommutator>> callsThatChangeNothing() {
        Map<String, Consumer<FrameCommutator>> calls = new LinkedHashMap<>();
        calls.put("plan", x -> x.plan());
        calls.put("setValue", x -> x.setValue(0, 0));
        calls.put("setMode", x -> x.setMode(0));
        calls.put("setLimits", x -> x.setLimits(0, 0, 0, 255));
        calls.put("setPersistence", x -> x.setPersistence(0, 1));
        return calls;
    }

    /** The digest without the number of saved states, which comes last. */
    private static long digestBut(FrameCommutator x, int saved) {
        return x.digest() - saved;
    }

    /** "IllegalStateException if there is no saved state" */
    private static void nothingIsSaved() {
        FrameCommutator x = new FrameCommutator();
        Checks.refused(x, "24: a new object", STATE, () -> x.undo());
        x.setMode(1);
        Checks.same("24: one state", x.undo(), 0);
        Checks.refused(x, "24: no state is left", STATE, () -> x.undo());
    }

    /** "Returns the number of saved states that remain." */
    private static void savedOneByOne() {
        for (int calls = 1; calls <= 6; calls++) {
            FrameCommutator x = new FrameCommutator();
            for (int i = 0; i < calls; i++) {
                x.setMode(1);
            }
            int saved = Math.min(MOST, calls);
            for (int remain = saved - 1; remain >= 0; remain--) {
                Checks.same("24: " + calls + " calls, undo()", x.undo(), remain);
            }
            Checks.refused(x, "24: " + calls + " calls, no more", STATE, () -> x.undo());
        }
    }

    private static FrameCommutator withValues(int last) {
        FrameCommutator x = new FrameCommutator();
        x.addParameter(1);
        for (int value = 1; value <= last; value++) {
            x.setValue(0, value);
        }
        return x;
    }

    /** "at most 4 states are saved" */
    private static void fifthState() {
        FrameCommutator four = withValues(3);
        for (int i = 0; i < MOST; i++) {
            four.undo();
        }
        Checks.refused(four, "24: all is undone", IndexOutOfBoundsException.class, () -> four.sample(0));
        FrameCommutator five = withValues(4);
        for (int i = 0; i < MOST; i++) {
            five.undo();
        }
        Checks.refused(five, "24: the fifth call back is not undone", STATE, () -> five.undo());
        Checks.same("24: the parameter is still there", five.setValue(0, 9), 0);
    }

    /** "and the oldest is dropped first" */
    private static void oldestIsDroppedFirst() {
        for (int last = 4; last <= 20; last++) {
            for (int undone = 1; undone <= MOST; undone++) {
                FrameCommutator x = withValues(last);
                for (int i = 1; i <= undone; i++) {
                    Checks.same("24: " + last + " values, undo()", x.undo(), MOST - i);
                }
                Checks.same("24: " + last + " values less " + undone, x.setValue(0, 99), last - undone);
            }
        }
    }

    /** "Restores the most recently saved state and removes it": an undo is not undone by the next. */
    private static void undoIsNotSaved() {
        FrameCommutator x = withValues(3);
        x.undo();
        x.undo();
        Checks.same("24: two values back", x.setValue(0, 50), 1);
        x.undo();
        x.undo();
        Checks.same("24: three values back", x.setValue(0, 60), 0);
    }

    private static void savedBehindAnUndo() {
        FrameCommutator x = withValues(10);
        for (int i = 0; i < MOST; i++) {
            x.undo();
        }
        for (int value = 20; value < 25; value++) {
            x.setValue(0, value);
        }
        for (int value = 23; value >= 20; value--) {
            x.undo();
            Checks.same("24: the values behind an undo", x.setValue(0, 99), value);
            x.undo();
        }
        Checks.refused(x, "24: the fifth is dropped again", STATE, () -> x.undo());
    }

    /** "saves the state from before the call, even if the call changes nothing" */
    private static void callsThatChangeNothingAreSaved() {
        callsThatChangeNothing().forEach((what, call) -> {
            FrameCommutator x = Streams.planned(1);
            long before = digestBut(x, 3);
            call.accept(x);
            Checks.same("24: nothing but a saved state, " + what, digestBut(x, 4), before);
            Checks.same("24: it is undone, " + what, x.undo(), 3);
            Checks.same("24: the state before, " + what, digestBut(x, 3), before);
        });
        FrameCommutator fresh = new FrameCommutator();
        fresh.setFrame(8, 4);
        Checks.same("24: setFrame as it was", fresh.undo(), 0);
    }

    private static void callsThatOnlyTellAreNotSaved() {
        FrameCommutator x = Streams.planned(1);
        x.send(1);
        long before = x.digest();
        x.samplesPerMajor(0);
        x.slot(0, 0, 0);
        x.ownerOf(0, 0);
        x.efficiency();
        x.pending();
        x.bit(0);
        x.receiverState();
        x.received(0);
        x.sample(0);
        x.samples(0);
        x.hasAlarm(0);
        x.alarms(0);
        Checks.same("25: nothing has changed", x.digest(), before);
        Checks.same("24: send is undone", x.undo(), 3);
        Checks.same("24: send is undone", x.pending(), 0);
    }

    /** "Each successful call": one that throws saves nothing, and drops nothing. */
    private static void refusedCallsDropNothing() {
        FrameCommutator x = withValues(4);
        for (int i = 0; i < 3; i++) {
            Checks.refused(x, "24: setFrame(5, 1)", IllegalArgumentException.class, () -> x.setFrame(5, 1));
            Checks.refused(x, "24: send(1)", STATE, () -> x.send(1));
            Checks.refused(x, "24: setMode(3)", IllegalArgumentException.class, () -> x.setMode(3));
        }
        for (int i = 1; i <= MOST; i++) {
            Checks.same("24: all four are there", x.undo(), MOST - i);
        }
        Checks.same("24: the oldest too", x.setValue(0, 9), 0);
    }

    /** "Undoable, if all parameters can be placed" */
    private static void planThatFailsDropsNothing() {
        FrameCommutator x = Streams.planned(1);
        x.addParameter(-8);
        for (int i = 0; i < 5; i++) {
            Checks.same("4: plan()", x.plan(), -11);
        }
        Checks.same("24: addParameter is undone", x.undo(), 3);
        Checks.same("24: the plan is back", x.efficiency(), 2.0 / 12.0);
        Checks.same("24: plan is undone", x.undo(), 2);
        Checks.refused(x, "24: no plan", STATE, () -> x.efficiency());
    }

    private static void undoOfTheFirstCall() {
        long fresh = new FrameCommutator().digest();
        FrameCommutator x = new FrameCommutator();
        x.setFrame(16, 8);
        x.undo();
        Checks.same("24: setFrame", x.digest(), fresh);
        x.addParameter(4);
        x.undo();
        Checks.same("24: addParameter", x.digest(), fresh);
        x.plan();
        x.undo();
        Checks.same("24: plan", x.digest(), fresh);
        x.setMode(2);
        x.undo();
        Checks.same("24: setMode", x.digest(), fresh);
    }

    /** "The saved state contains everything.": the bits, the receiver, the samples and the alarms too. */
    private static void undoOfFourReceives() {
        String stream = Streams.lock() + Streams.broken(0, 200, 8, 9) + Streams.frame(1, 7, 7, 7);
        FrameCommutator x = Streams.loaded(stream);
        x.setLimits(0, 0, 0, 100);
        long[] digests = new long[MOST];
        int[] counts = {50, 46, 30, 20};
        for (int i = 0; i < MOST; i++) {
            digests[i] = digestBut(x, MOST);
            x.receive(counts[i]);
        }
        Checks.same("22: an alarm", x.hasAlarm(0), true);
        for (int i = MOST - 1; i >= 0; i--) {
            Checks.same("24: undo of a receive", x.undo(), i);
            Checks.same("24: the digest of before", digestBut(x, i), digests[i]);
        }
        Checks.same("14: all once more", x.receive(stream.length()), 3);
        Checks.same("17: the last sample", x.sample(0), 7);
        Checks.same("23: the alarm is raised once", x.alarms(0), 1);
    }

    private static void digestCountsTheSavedStates() {
        FrameCommutator x = new FrameCommutator();
        long fresh = x.digest();
        for (int calls = 1; calls <= 6; calls++) {
            x.setMode(0);
            Checks.same("25: behind " + calls + " calls", x.digest() - fresh, (long) Math.min(MOST, calls));
        }
        for (int left = MOST - 1; left >= 0; left--) {
            x.undo();
            Checks.same("25: " + left + " are left", x.digest() - fresh, (long) left);
        }
    }

    private static long mixed(long hash, int... values) {
        long mixed = hash;
        for (int value : values) {
            mixed = 31 * mixed + value;
        }
        return mixed;
    }

    /** "the number of parameters and, for each of them", with no plan, 12 times. */
    private static void digestOfTwelveParameters() {
        int[] rates = {1, 2, 3, 4, -2, -4, -8, 1, 2, 3, 4, -8};
        FrameCommutator x = Streams.withRates(16, 8, rates);
        long due = mixed(2837, 16, 8, 12);
        for (int i = 0; i < 12; i++) {
            x.setValue(i, 255 - i);
            x.setLimits(i, 0, i, i + 1);
            x.setLimits(i, 1, i + 2, i + 3);
            x.setLimits(i, 2, i + 4, 255);
            x.setPersistence(i, 1 + i % 5);
            due = mixed(due, rates[i], 255 - i, -1, 0);
            due = mixed(due, i, i + 1, i + 2, i + 3, i + 4, 255, 1 + i % 5, 0, 0, 0);
        }
        due = mixed(due, 0, 0, 0, 0, 0, 0, 0, 0, 0, 0, 0, 0, 4);
        Checks.same("25: twelve parameters", x.digest(), due);
    }

    /** "the number of bits in the channel and all its bits", with 2048 of them. */
    private static void digestOfAFullChannel() {
        FrameCommutator x = Streams.full();
        long due = mixed(2837, 16, 1, 0, 1);
        due = mixed(due, Streams.times(16, -1));
        due = mixed(due, 0, 2048);
        StringBuilder frame = new StringBuilder(Streams.SYNC + Streams.word(0));
        for (int i = 0; i < 13; i++) {
            frame.append(Streams.word(85));
        }
        for (int i = 0; i < 2048; i++) {
            due = mixed(due, frame.charAt(i % 128) - '0');
        }
        due = mixed(due, 0, 0, 0, 0, 0, 0, 0, 0, 0, 3);
        Checks.same("25: a full channel", x.digest(), due);
    }

    /** "An object is used for at most 512 calls after it has been made" */
    private static void fiveHundredTwelveCalls() {
        FrameCommutator x = Streams.plannedAs(16, 8, 1);
        int calls = 3;
        int sent = 0;
        while (calls + 3 <= 510) {
            x.setValue(0, sent % 256);
            x.send(1);
            Checks.same("14: call " + (calls + 3), x.receive(128), sent == 0 ? 0 : 1);
            sent++;
            calls += 3;
        }
        Checks.same("18: call 511", x.samples(0), sent - 1);
        Checks.same("24: call 512", x.undo(), 3);
    }
}
