/** Sentences about the number of parameters: none, one, twelve, and a twelfth that was taken back. */
public final class ParameterBoundsTest {
    private static final Class<?> ARGUMENT = IllegalArgumentException.class;
    private static final Class<?> STATE = IllegalStateException.class;
    private static final Class<?> INDEX = IndexOutOfBoundsException.class;
    private static final int[] RATES = {1, 2, 3, 4, -2, -4, -8};
    private static final int MOST = 12;

    public static void main(String[] args) {
        rates();
        numbersBeginWithZero();
        noThirteenth();
        noSuchParameter("5: samplesPerMajor", (x, p) -> x.samplesPerMajor(p));
        noSuchParameter("6: slot", (x, p) -> x.slot(p, 0, 1));
        noSuchParameter("9: setValue", (x, p) -> x.setValue(p, 1));
        noSuchParameter("17: sample", (x, p) -> x.sample(p));
        noSuchParameter("18: samples", (x, p) -> x.samples(p));
        noSuchParameter("20: setLimits", (x, p) -> x.setLimits(p, 0, 1, 2));
        noSuchParameter("21: setPersistence", (x, p) -> x.setPersistence(p, 2));
        noSuchParameter("22: hasAlarm", (x, p) -> x.hasAlarm(p));
        noSuchParameter("23: alarms", (x, p) -> x.alarms(p));
        twelveInOneFrame();
        twelveAreKeptApart();
        Checks.finish("ParameterBoundsTest");
    }

    /** A plan for so many parameters, one sample each; a frame of 15 words has 12 columns. */
    private static FrameCommutator with(int count) {
        return Streams.plannedAs(15, 1, Streams.times(count, 1));
    }

    private static FrameCommutator withUndoneTwelfth() {
        FrameCommutator x = with(MOST - 1);
        x.addParameter(1);
        x.undo();
        return x;
    }

    /** "IllegalArgumentException if rate is not 1, 2, 3, 4, -2, -4 or -8" */
    private static void rates() {
        Bounds.oneOf("3: addParameter", FrameCommutator::new, RATES, ARGUMENT, (x, r) -> x.addParameter(r));
    }

    /** "There are at most 12 parameters, numbered from 0." */
    private static void numbersBeginWithZero() {
        FrameCommutator x = new FrameCommutator();
        for (int i = 0; i < MOST; i++) {
            Checks.same("3: parameter " + i, x.addParameter(RATES[i % RATES.length]), i);
        }
    }

    /** "IllegalStateException if there are 12 parameters" */
    private static void noThirteenth() {
        for (int rate : RATES) {
            FrameCommutator x = with(MOST);
            Checks.refused(x, "3: a thirteenth with rate " + rate, STATE, () -> x.addParameter(rate));
            FrameCommutator y = with(MOST - 1);
            Checks.same("3: a twelfth with rate " + rate, y.addParameter(rate), MOST - 1);
        }
    }

    /** "IndexOutOfBoundsException if there is no such parameter" */
    private static void noSuchParameter(String what, Bounds.Call call) {
        for (int count : new int[] {0, 1, MOST - 1, MOST}) {
            Bounds.range(what + " of " + count, () -> with(count), 0, count - 1, INDEX, call);
        }
        Bounds.range(what + " with an undone twelfth", ParameterBoundsTest::withUndoneTwelfth,
                0, MOST - 2, INDEX, call);
    }

    private static void twelveInOneFrame() {
        FrameCommutator x = with(MOST);
        Checks.same("4: plan() of twelve", x.plan(), MOST);
        for (int i = 0; i < MOST; i++) {
            Checks.same("7: the word of parameter " + i, x.ownerOf(0, 3 + i), i);
        }
        Checks.same("8: all columns are taken", x.efficiency(), 12.0 / 15.0);
    }

    private static void twelveAreKeptApart() {
        FrameCommutator x = with(MOST);
        for (int i = 0; i < MOST; i++) {
            x.setValue(i, 10 + i);
            x.setLimits(i, 0, 0, i % 2 == 0 ? 9 + i : 10 + i);
            x.setPersistence(i, 1 + i % 5);
        }
        x.send(4);
        Checks.same("14: three minor frames", x.receive(4 * 15 * 8), 3);
        for (int i = 0; i < MOST; i++) {
            Checks.same("17: sample of " + i, x.sample(i), 10 + i);
            Checks.same("18: samples of " + i, x.samples(i), 3);
            boolean alarm = i % 2 == 0 && 1 + i % 5 <= 3;
            Checks.same("22: alarm of " + i, x.hasAlarm(i), alarm);
            Checks.same("23: alarms of " + i, x.alarms(i), alarm ? 1 : 0);
            Checks.same("21: persistence of " + i, x.setPersistence(i, 1), 1 + i % 5);
        }
    }
}
