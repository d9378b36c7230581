import java.util.Arrays;
import java.util.function.Supplier;

/** Calls at the edges of what an argument may be, each on an object of its own. */
final class Bounds {
    private static final int FAR = 40;

    private Bounds() {
    }

    interface Call {
        Object on(FrameCommutator x, int argument);
    }

    /** From low to high all are taken; the ones beside them and the farthest ones are refused. */
    static void range(String what, Supplier<FrameCommutator> maker, int low, int high, Class<?> due,
            Call call) {
        for (int argument = low; argument <= high; argument++) {
            taken(what, maker.get(), argument, call);
        }
        for (int argument : new int[] {low - 1, high + 1, Integer.MIN_VALUE, Integer.MAX_VALUE}) {
            refused(what, maker.get(), argument, due, call);
        }
    }

    /** These are taken, and all others from -40 to 40, and the farthest ones, are refused. */
    static void oneOf(String what, Supplier<FrameCommutator> maker, int[] those, Class<?> due,
            Call call) {
        for (int argument = -FAR; argument <= FAR; argument++) {
            int tried = argument;
            if (Arrays.stream(those).anyMatch(that -> that == tried)) {
                taken(what, maker.get(), argument, call);
            } else {
                refused(what, maker.get(), argument, due, call);
            }
        }
        refused(what, maker.get(), Integer.MIN_VALUE, due, call);
        refused(what, maker.get(), Integer.MAX_VALUE, due, call);
    }

    private static void taken(String what, FrameCommutator x, int argument, Call call) {
        Object answer = Checks.outcome(() -> call.on(x, argument));
        Checks.same(what + ", " + argument + " is taken (" + answer + ")", answer instanceof Class, false);
    }

    private static void refused(String what, FrameCommutator x, int argument, Class<?> due, Call call) {
        Checks.refused(x, what + ", " + argument + " is refused", due, () -> call.on(x, argument));
    }
}
