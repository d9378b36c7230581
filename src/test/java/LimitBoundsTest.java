/** Sentences of promises 19 to 23, and of "Limits", that name a boundary case. */
public final class LimitBoundsTest {
    private static final Class<?> ARGUMENT = IllegalArgumentException.class;

    public static void main(String[] args) {
        modes();
        modeAtFirst();
        modesOfSetLimits();
        lowLimits();
        highLimits();
        limitsAtFirst();
        limitsThatMeet();
        lessOrGreater();
        limitsOfEachMode();
        persistences();
        persistenceAtFirst();
        exactlyThePersistence();
        rowGoesOnBehindTheAlarm();
        sampleWithinEndsTheRow();
        sampleWithinEndsTheAlarm();
        alarmIsNotRaisedTwice();
        smallerPersistenceWaitsForASample();
        limitsWaitForASample();
        modeWaitsForASample();
        noAlarmAtFirst();
        Checks.finish("LimitBoundsTest");
    }

    private static FrameCommutator limited(int persistence) {
        FrameCommutator x = Streams.locked();
        x.setLimits(0, 0, 100, 200);
        x.setPersistence(0, persistence);
        return x;
    }

    /** "mode: 0 to 2" */
    private static void modes() {
        Bounds.range("19: mode", FrameCommutator::new, 0, 2, ARGUMENT, (x, mode) -> x.setMode(mode));
        FrameCommutator x = new FrameCommutator();
        for (int mode = 0; mode < 3; mode++) {
            x.setMode(mode);
            Checks.same("19: the previous mode", x.setMode(mode), mode);
        }
    }

    /** "There are three modes, 0 to 2, initially mode 0." */
    private static void modeAtFirst() {
        Checks.same("19: initially", new FrameCommutator().setMode(2), 0);
    }

    private static void modesOfSetLimits() {
        Bounds.range("20: mode", () -> Streams.planned(1), 0, 2, ARGUMENT,
                (x, mode) -> x.setLimits(0, mode, 1, 2));
    }

    /** "low limit, 0 to high" */
    private static void lowLimits() {
        for (int high : new int[] {0, 1, 128, 255}) {
            Bounds.range("20: low with high " + high, () -> Streams.planned(1), 0, high, ARGUMENT,
                    (x, low) -> x.setLimits(0, 0, low, high));
        }
    }

    /** "high limit, low to 255" */
    private static void highLimits() {
        for (int low : new int[] {0, 1, 128, 255}) {
            Bounds.range("20: high with low " + low, () -> Streams.planned(1), low, 255, ARGUMENT,
                    (x, high) -> x.setLimits(0, 0, low, high));
        }
        FrameCommutator x = Streams.planned(1);
        Checks.refused(x, "20: low and high -1", ARGUMENT, () -> x.setLimits(0, 0, -1, -1));
        Checks.refused(x, "20: low and high 256", ARGUMENT, () -> x.setLimits(0, 0, 256, 256));
    }

    /** "initially 0 and 255", and "1000 * (previous low limit) + (previous high limit)" */
    private static void limitsAtFirst() {
        for (int mode = 0; mode < 3; mode++) {
            FrameCommutator x = Streams.planned(1);
            Checks.same("20: initially", x.setLimits(0, mode, 255, 255), 255);
            Checks.same("20: the largest", x.setLimits(0, mode, 0, 0), 255255);
            Checks.same("20: the smallest", x.setLimits(0, mode, 0, 255), 0);
        }
        FrameCommutator x = Streams.locked();
        Streams.feed(x, 0, 255);
        Checks.alarmIs("nothing is out of 0 and 255", x, false, 0);
    }

    private static void limitsThatMeet() {
        for (int limit : new int[] {0, 1, 128, 254, 255}) {
            FrameCommutator x = Streams.locked();
            x.setLimits(0, 0, limit, limit);
            Streams.feed(x, limit);
            Checks.alarmIs("only " + limit + " is within", x, false, 0);
            int other = limit == 0 ? 1 : limit - 1;
            Streams.feed(x, other);
            Checks.alarmIs(other + " is out of " + limit, x, true, 1);
            Streams.feed(x, limit);
            Checks.alarmIs(limit + " ends it", x, false, 1);
        }
    }

    /** "if it is less than the low limit or greater than the high limit" */
    private static void lessOrGreater() {
        int[] samples = {0, 99, 100, 101, 199, 200, 201, 255};
        boolean[] out = {true, true, false, false, false, false, true, true};
        for (int i = 0; i < samples.length; i++) {
            FrameCommutator x = limited(1);
            Streams.feed(x, samples[i]);
            Checks.alarmIs("sample " + samples[i], x, out[i], out[i] ? 1 : 0);
        }
    }

    /** "of the present mode" */
    private static void limitsOfEachMode() {
        for (int present = 0; present < 3; present++) {
            for (int limited = 0; limited < 3; limited++) {
                FrameCommutator x = Streams.locked();
                x.setMode(present);
                x.setLimits(0, limited, 50, 60);
                Streams.feed(x, 61);
                Checks.same("22: limits of mode " + limited + " in mode " + present, x.hasAlarm(0),
                        limited == present);
            }
        }
    }

    /** "persistence: 1 to 5" */
    private static void persistences() {
        Bounds.range("21: persistence", () -> Streams.planned(1), 1, 5, ARGUMENT,
                (x, persistence) -> x.setPersistence(0, persistence));
    }

    /** "a persistence, 1 to 5 (initially 1)" */
    private static void persistenceAtFirst() {
        FrameCommutator x = Streams.locked();
        x.setLimits(0, 0, 1, 255);
        Streams.feed(x, 0);
        Checks.alarmIs("the first sample raises it", x, true, 1);
        Checks.same("21: initially", x.setPersistence(0, 5), 1);
        Checks.same("21: the largest", x.setPersistence(0, 1), 5);
    }

    /** "if it is at least the persistence then, and the parameter has no alarm, it raises one" */
    private static void exactlyThePersistence() {
        for (int persistence = 1; persistence <= 5; persistence++) {
            FrameCommutator x = limited(persistence);
            for (int row = 1; row <= 6; row++) {
                Streams.feed(x, row % 2 == 0 ? 99 : 201);
                boolean raised = row >= persistence;
                Checks.alarmIs(row + " of " + persistence + " in a row", x, raised, raised ? 1 : 0);
            }
        }
    }

    /** "the number of samples in a row that are out of limits increases by 1", without an end. */
    private static void rowGoesOnBehindTheAlarm() {
        FrameCommutator x = limited(2);
        FrameCommutator y = limited(2);
        Streams.feed(x, 99, 99, 99, 99, 99, 99, 99);
        Streams.feed(y, 100, 99, 99, 99, 99, 99, 99);
        // The two differ in the row alone, 7 and 6, and behind it the digest takes 26 values: the alarms,
        // the plan with its 12 words, the sender, the empty channel, the receiver with its counts, the
        // mode and the saved states.
        long difference = 1;
        for (int i = 0; i < 26; i++) {
            difference *= 31;
        }
        Checks.same("25: seven and six in a row", x.digest() - y.digest(), difference);
    }

    /** "A received sample that is within limits ends the alarm, and this number becomes 0." */
    private static void sampleWithinEndsTheRow() {
        for (int persistence = 2; persistence <= 5; persistence++) {
            FrameCommutator x = limited(persistence);
            for (int round = 0; round < 3; round++) {
                for (int i = 1; i < persistence; i++) {
                    Streams.feed(x, 201);
                }
                Streams.feed(x, 200);
            }
            Checks.alarmIs("one fewer than " + persistence + " in each row", x, false, 0);
        }
    }

    private static void sampleWithinEndsTheAlarm() {
        FrameCommutator x = limited(3);
        Streams.feed(x, 99, 99, 99, 99);
        Checks.alarmIs("four in a row", x, true, 1);
        Streams.feed(x, 100);
        Checks.alarmIs("one within", x, false, 1);
        Streams.feed(x, 99, 99);
        Checks.alarmIs("two in a row", x, false, 1);
        Streams.feed(x, 99);
        Checks.alarmIs("three in a row", x, true, 2);
    }

    private static void alarmIsNotRaisedTwice() {
        FrameCommutator x = limited(1);
        for (int i = 0; i < 10; i++) {
            Streams.feed(x, 0);
            Checks.alarmIs("raised once", x, true, 1);
        }
    }

    private static void smallerPersistenceWaitsForASample() {
        FrameCommutator x = limited(5);
        Streams.feed(x, 99, 99, 99, 99);
        x.setPersistence(0, 1);
        Checks.alarmIs("a smaller persistence", x, false, 0);
        FrameCommutator y = limited(5);
        Streams.feed(y, 99, 99, 99, 99);
        y.setPersistence(0, 4);
        Streams.feed(y, 99);
        Checks.alarmIs("more than the persistence", y, true, 1);
        Streams.feed(x, 100);
        Checks.alarmIs("a sample within comes first", x, false, 0);
    }

    private static void limitsWaitForASample() {
        FrameCommutator x = limited(1);
        Streams.feed(x, 99);
        x.setLimits(0, 0, 0, 255);
        Checks.alarmIs("wider limits end nothing", x, true, 1);
        Streams.feed(x, 99);
        Checks.alarmIs("the next sample does", x, false, 1);
        x.setLimits(0, 0, 100, 200);
        Checks.alarmIs("narrower limits raise nothing", x, false, 1);
    }

    /** "Alarms and rows of samples stay." */
    private static void modeWaitsForASample() {
        FrameCommutator x = limited(2);
        Streams.feed(x, 99);
        x.setMode(1);
        x.setMode(0);
        Streams.feed(x, 99);
        Checks.alarmIs("the row has stayed", x, true, 1);
        x.setMode(2);
        Checks.alarmIs("the alarm stays", x, true, 1);
        x.setLimits(0, 2, 0, 98);
        Streams.feed(x, 99);
        Checks.alarmIs("it goes on in another mode", x, true, 1);
        x.setMode(1);
        Streams.feed(x, 99);
        Checks.alarmIs("within in a third one", x, false, 1);
    }

    private static void noAlarmAtFirst() {
        FrameCommutator x = Streams.locked();
        x.addParameter(1);
        Checks.same("22: a new parameter", x.hasAlarm(1), false);
        Checks.same("23: a new parameter", x.alarms(1), 0);
        FrameCommutator y = limited(1);
        Streams.feed(y, 99);
        y.addParameter(1);
        Checks.alarmIs("a new parameter ends no alarm", y, true, 1);
        y.setFrame(6, 4);
        Checks.alarmIs("a new layout ends no alarm", y, true, 1);
    }
}
