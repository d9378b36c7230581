/** Promises 19 to 23: modes, limits, persistence and alarms. */
public final class LimitsTest {
    private static final Class<?> ARGUMENT = IllegalArgumentException.class;
    private static final Class<?> INDEX = IndexOutOfBoundsException.class;

    public static void main(String[] args) {
        setMode();
        modeKeepsAlarmsAndRows();
        setLimits();
        setLimitsWrongly();
        limitsOfThePresentMode();
        limitsAreWithin();
        setPersistence();
        persistenceCountsARow();
        persistenceThatChanges();
        alarmIsRaisedOnce();
        samplesOfOneMinorFrame();
        badMinorFramesDoNotCount();
        alarmsWrongly();
        Checks.finish("LimitsTest");
    }

    private static void setMode() {
        FrameCommutator x = new FrameCommutator();
        Checks.same("19: setMode(2)", x.setMode(2), 0);
        Checks.same("19: setMode(1)", x.setMode(1), 2);
        Checks.same("19: setMode(1) again", x.setMode(1), 1);
        Checks.refused(x, "19: setMode(3)", ARGUMENT, () -> x.setMode(3));
        Checks.refused(x, "19: setMode(-1)", ARGUMENT, () -> x.setMode(-1));
        Checks.same("19: setMode(0)", x.setMode(0), 1);
    }

    private static void modeKeepsAlarmsAndRows() {
        FrameCommutator x = Streams.locked();
        x.setLimits(0, 0, 10, 20);
        x.setPersistence(0, 3);
        Streams.feed(x, 21, 22);
        x.setMode(1);
        Checks.alarmIs("two out of limits", x, false, 0);
        x.setMode(0);
        Streams.feed(x, 23);
        Checks.alarmIs("the row has stayed", x, true, 1);
        x.setMode(1);
        Checks.alarmIs("the alarm stays", x, true, 1);
        Streams.feed(x, 23);
        Checks.alarmIs("within the limits of mode 1", x, false, 1);
    }

    private static void setLimits() {
        FrameCommutator x = Streams.locked();
        x.addParameter(1);
        Checks.same("20: initial limits", x.setLimits(0, 1, 10, 20), 255);
        Checks.same("20: previous limits", x.setLimits(0, 1, 0, 255), 10020);
        Checks.same("20: one value", x.setLimits(0, 1, 255, 255), 255);
        Checks.same("20: the smallest", x.setLimits(0, 1, 0, 0), 255255);
        Checks.same("20: of another mode", x.setLimits(0, 0, 1, 2), 255);
        Checks.same("20: of a third mode", x.setLimits(0, 2, 3, 4), 255);
        Checks.same("20: of another parameter", x.setLimits(1, 1, 5, 6), 255);
        Checks.same("20: mode 0", x.setLimits(0, 0, 0, 0), 1002);
        Checks.same("20: mode 2", x.setLimits(0, 2, 0, 0), 3004);
        Checks.same("20: parameter 1", x.setLimits(1, 1, 0, 0), 5006);
    }

    private static void setLimitsWrongly() {
        FrameCommutator x = Streams.locked();
        Checks.refused(x, "20: mode 3", ARGUMENT, () -> x.setLimits(0, 3, 0, 0));
        Checks.refused(x, "20: mode -1", ARGUMENT, () -> x.setLimits(0, -1, 0, 0));
        Checks.refused(x, "20: low -1", ARGUMENT, () -> x.setLimits(0, 0, -1, 0));
        Checks.refused(x, "20: high 256", ARGUMENT, () -> x.setLimits(0, 0, 0, 256));
        Checks.refused(x, "20: low above high", ARGUMENT, () -> x.setLimits(0, 0, 8, 7));
        Checks.refused(x, "20: both above 255", ARGUMENT, () -> x.setLimits(0, 0, 256, 256));
        Checks.refused(x, "20: both below 0", ARGUMENT, () -> x.setLimits(0, 0, -2, -1));
        Checks.refused(x, "20: parameter 1", INDEX, () -> x.setLimits(1, 3, 8, 7));
        Checks.refused(x, "20: parameter -1", INDEX, () -> x.setLimits(-1, 0, 0, 0));
    }

    private static void limitsOfThePresentMode() {
        FrameCommutator x = Streams.locked();
        x.setLimits(0, 0, 0, 50);
        x.setLimits(0, 1, 100, 150);
        x.setLimits(0, 2, 200, 255);
        int[] within = {25, 125, 225};
        for (int mode = 0; mode < 3; mode++) {
            x.setMode(mode);
            for (int i = 0; i < 3; i++) {
                Streams.feed(x, within[i]);
                Checks.same("20: " + within[i] + " in mode " + mode, x.hasAlarm(0), i != mode);
            }
        }
    }

    private static void limitsAreWithin() {
        FrameCommutator x = Streams.locked();
        Streams.feed(x, 0, 255);
        Checks.alarmIs("initial limits", x, false, 0);
        x.setLimits(0, 0, 10, 20);
        Checks.alarmIs("limits alone raise nothing", x, false, 0);
        Streams.feed(x, 10, 20);
        Checks.alarmIs("at the limits", x, false, 0);
        Streams.feed(x, 9);
        Checks.alarmIs("below", x, true, 1);
        Streams.feed(x, 10);
        Checks.alarmIs("within ends it", x, false, 1);
        Streams.feed(x, 21);
        Checks.alarmIs("above", x, true, 2);
    }

    private static void setPersistence() {
        FrameCommutator x = Streams.locked();
        Checks.same("21: setPersistence(0, 5)", x.setPersistence(0, 5), 1);
        Checks.same("21: setPersistence(0, 1)", x.setPersistence(0, 1), 5);
        Checks.refused(x, "21: persistence 0", ARGUMENT, () -> x.setPersistence(0, 0));
        Checks.refused(x, "21: persistence 6", ARGUMENT, () -> x.setPersistence(0, 6));
        Checks.refused(x, "21: parameter 1", INDEX, () -> x.setPersistence(1, 6));
        Checks.refused(x, "21: parameter -1", INDEX, () -> x.setPersistence(-1, 1));
        Checks.same("21: nothing has changed", x.setPersistence(0, 2), 1);
    }

    private static void persistenceCountsARow() {
        for (int persistence = 1; persistence <= 5; persistence++) {
            FrameCommutator x = Streams.locked();
            x.setLimits(0, 0, 100, 200);
            x.setPersistence(0, persistence);
            for (int i = 1; i < persistence; i++) {
                Streams.feed(x, 99);
                Checks.alarmIs("out of limits " + i + " times of " + persistence, x, false, 0);
            }
            Streams.feed(x, 100);
            for (int i = 1; i < persistence; i++) {
                Streams.feed(x, 201);
            }
            Checks.alarmIs("the row has begun anew", x, false, 0);
            Streams.feed(x, 99);
            Checks.alarmIs("out of limits " + persistence + " times", x, true, 1);
        }
    }

    private static void persistenceThatChanges() {
        FrameCommutator x = Streams.locked();
        x.setLimits(0, 0, 0, 10);
        x.setPersistence(0, 5);
        Streams.feed(x, 11, 11, 11);
        x.setPersistence(0, 2);
        Checks.alarmIs("a smaller persistence alone raises nothing", x, false, 0);
        Streams.feed(x, 11);
        Checks.alarmIs("the next sample does", x, true, 1);
        x.setPersistence(0, 5);
        Streams.feed(x, 11);
        Checks.alarmIs("a larger one ends nothing", x, true, 1);
    }

    private static void alarmIsRaisedOnce() {
        FrameCommutator x = Streams.locked();
        x.setLimits(0, 0, 0, 10);
        Streams.feed(x, 11, 12, 13);
        Checks.alarmIs("three out of limits", x, true, 1);
        Streams.feed(x, 5);
        Checks.alarmIs("one within", x, false, 1);
        Streams.feed(x, 11);
        Checks.alarmIs("out of limits again", x, true, 2);
    }

    private static void samplesOfOneMinorFrame() {
        FrameCommutator x = Streams.planned(3);
        x.setLimits(0, 0, 0, 10);
        Streams.put(x, Streams.lock() + Streams.frame(0, 11, 5, 12) + Streams.frame(1, 13, 5, 6),
                Streams.body(0, 0, 0, 0).substring(8));
        x.receive(144);
        Checks.alarmIs("out, within, out", x, true, 2);
        x.receive(48);
        Checks.alarmIs("out, within, within", x, false, 2);
    }

    private static void badMinorFramesDoNotCount() {
        FrameCommutator x = Streams.loaded(Streams.lock() + Streams.frame(2, 99, 99, 99));
        x.setLimits(0, 0, 0, 10);
        x.receive(144);
        Checks.same("16: a bad one", x.received(1), 1);
        Checks.alarmIs("a bad minor frame", x, false, 0);
    }

    private static void alarmsWrongly() {
        FrameCommutator x = Streams.locked();
        for (int parameter : new int[] {-1, 1, 12, Integer.MIN_VALUE}) {
            Checks.refused(x, "22: hasAlarm(" + parameter + ")", INDEX, () -> x.hasAlarm(parameter));
            Checks.refused(x, "23: alarms(" + parameter + ")", INDEX, () -> x.alarms(parameter));
        }
    }
}
