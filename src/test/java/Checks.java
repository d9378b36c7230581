import java.util.function.Supplier;

/** Compares answers with what is due, and counts the ones that are wrong. */
final class Checks {
    private static int done = 0;
    private static int wrong = 0;

    private Checks() {
    }

    static void same(String what, Object got, Object due) {
        done++;
        if (!due.equals(got)) {
            wrong++;
            System.out.println(what + " answered " + got + ", due is " + due);
        }
    }

    static void same(String what, int got, int due) {
        same(what, Integer.valueOf(got), Integer.valueOf(due));
    }

    /** The call must throw this very class, no class below it, and leave the object as it was. */
    static void refused(FrameCommutator x, String what, Class<?> due, Supplier<?> call) {
        long before = x.digest();
        same(what, outcome(call), due);
        same(what + ", digest behind it", x.digest(), before);
    }

    static void alarmIs(String what, FrameCommutator x, boolean alarm, int alarms) {
        same("22: " + what + ", hasAlarm(0)", x.hasAlarm(0), alarm);
        same("23: " + what + ", alarms(0)", x.alarms(0), alarms);
    }

    /** The counts of the receiver, from received(0) on. */
    static void countsAre(String what, FrameCommutator x, int... due) {
        for (int i = 0; i < due.length; i++) {
            same("16: " + what + ", received(" + i + ")", x.received(i), due[i]);
        }
    }

    /** The answer of a call, or the class of what it threw. */
    static Object outcome(Supplier<?> call) {
        try {
            return call.get();
        } catch (RuntimeException e) {
            return e.getClass();
        }
    }

    static void finish(String name) {
        System.out.println(name + ": " + done + " checks, " + wrong + " wrong");
        if (wrong != 0 || done == 0) {
            System.exit(1);
        }
    }
}
