import java.util.Random;
import java.util.function.Function;

/**
 * Runs of calls by chance, the same ones each time, on the class and on the model of the document.
 * What is thrown is compared by its very class: an exception of the machine is never the due one.
 */
public final class RandomRunsTest {
    private static final int RUNS = 1500;
    private static final int CALLS = 512;
    private static final int[] RATES = {1, 1, 1, 2, 3, 4, -2, -2, -4, -8};
    private static final int[] VALUES = {235, 144, 0, 85, 170, 255, 117, 200, 214, 33};
    private static final int[] ODD = {-1, 0, 1, 2, 3, 5, 7, 12, 16, 17, 255, 256, 2047, 2048, 2049,
        Integer.MAX_VALUE, Integer.MIN_VALUE};

    private final Random random;
    private final FrameCommutator x = new FrameCommutator();
    private final Model model = new Model();
    private String called = "";

    private RandomRunsTest(int seed) {
        random = new Random(seed);
    }

    public static void main(String[] args) {
        int[] reached = new int[6];
        for (int run = 0; run < RUNS; run++) {
            new RandomRunsTest(run).run(run, reached);
        }
        for (int what = 0; what < reached.length; what++) {
            System.out.println("received(" + what + ") over all runs: " + reached[what]);
            Checks.same("the runs reach count " + what, reached[what] > RUNS / 4, true);
        }
        Checks.finish("RandomRunsTest");
    }

    private void run(int number, int[] reached) {
        // A digest is a call too, and an object is promised to last for 512 calls.
        int calls = 0;
        while (calls < CALLS - 8) {
            Object[] answers = wrongOrOrdinary();
            Checks.same("run " + number + ": " + called, answers[0], answers[1]);
            calls++;
            if (chance(3)) {
                Checks.same("run " + number + ": digest behind " + called, x.digest(), model.digest());
                calls++;
            }
        }
        for (int what = 0; what < 6; what++) {
            reached[what] += x.received(what);
        }
    }

    private boolean chance(int of) {
        return random.nextInt(of) == 0;
    }

    private int from(int low, int high) {
        return low + random.nextInt(high - low + 1);
    }

    private int any(int[] values) {
        return values[random.nextInt(values.length)];
    }

    private Object[] both(String call, Function<FrameCommutator, Object> ours,
            Function<Model, Object> due) {
        called = call;
        return new Object[] {Checks.outcome(() -> ours.apply(x)), Checks.outcome(() -> due.apply(model))};
    }

    private Object[] wrongOrOrdinary() {
        if (chance(12)) {
            return call(random.nextInt(24), any(ODD), any(ODD), any(ODD), any(ODD));
        }
        return ordinary();
    }

    private Object[] ordinary() {
        int parameter = from(0, 4);
        int bits = Math.max(1, model.pending());
        switch (random.nextInt(40)) {
            case 0: return chance(4) ? call(0, from(6, 16), 1 << from(0, 3), 0, 0) : plan();
            case 1: return chance(2) ? call(1, any(RATES), 0, 0, 0) : plan();
            case 2: case 3: return plan();
            case 4: return call(3, parameter, 0, 0, 0);
            case 5: return call(4, parameter, from(0, 8), from(0, 1), 0);
            case 6: return call(5, from(0, 7), from(0, 15), 0, 0);
            case 7: return call(6, 0, 0, 0, 0);
            case 8: case 9: return call(7, parameter, chance(2) ? any(VALUES) : from(0, 255), 0, 0);
            case 10: case 11: case 12: case 13: case 14: case 15: return call(8, from(1, 6), 0, 0, 0);
            case 16: return call(9, 0, 0, 0, 0);
            case 17: return call(10, random.nextInt(bits), 0, 0, 0);
            case 18: case 19: case 20: case 21: case 22:
                return call(11, from(0, 3), random.nextInt(chance(2) ? bits : Math.min(bits, 150)), 0, 0);
            case 23: case 24: case 25: case 26: case 27:
                return call(12, random.nextInt(bits) + 1, 0, 0, 0);
            case 28: return call(12, bits, 0, 0, 0);
            case 29: return call(13, 0, 0, 0, 0);
            case 30: return call(14, from(0, 5), 0, 0, 0);
            case 31: return call(15 + random.nextInt(2), parameter, 0, 0, 0);
            case 32: return call(17, from(0, 2), 0, 0, 0);
            case 33: case 34: return call(18, parameter, from(0, 2), from(0, 100), from(100, 255));
            case 35: return call(19, parameter, from(1, 5), 0, 0);
            case 36: return call(20 + random.nextInt(2), parameter, 0, 0, 0);
            case 37: case 38: return call(22, 0, 0, 0, 0);
            default: return call(23, 0, 0, 0, 0);
        }
    }

    private Object[] plan() {
        return call(2, 0, 0, 0, 0);
    }

    private Object[] call(int method, int a, int b, int c, int d) {
        String s = "(" + a + ", " + b + ", " + c + ", " + d + ")";
        switch (method) {
            case 0: return both("setFrame" + s, f -> f.setFrame(a, b), m -> m.setFrame(a, b));
            case 1: return both("addParameter" + s, f -> f.addParameter(a), m -> m.addParameter(a));
            case 2: return both("plan", f -> f.plan(), m -> m.plan());
            case 3: return both("samplesPerMajor" + s, f -> f.samplesPerMajor(a), m -> m.samplesPerMajor(a));
            case 4: return both("slot" + s, f -> f.slot(a, b, c), m -> m.slot(a, b, c));
            case 5: return both("ownerOf" + s, f -> f.ownerOf(a, b), m -> m.ownerOf(a, b));
            case 6: return both("efficiency", f -> f.efficiency(), m -> m.efficiency());
            case 7: return both("setValue" + s, f -> f.setValue(a, b), m -> m.setValue(a, b));
            case 8: return both("send" + s, f -> f.send(a), m -> m.send(a));
            case 9: return both("pending", f -> f.pending(), m -> m.pending());
            case 10: return both("bit" + s, f -> f.bit(a), m -> m.bit(a));
            case 11: return both("disturb" + s, f -> f.disturb(a, b), m -> m.disturb(a, b));
            case 12: return both("receive" + s, f -> f.receive(a), m -> m.receive(a));
            case 13: return both("receiverState", f -> f.receiverState(), m -> m.receiverState());
            case 14: return both("received" + s, f -> f.received(a), m -> m.received(a));
            case 15: return both("sample" + s, f -> f.sample(a), m -> m.sample(a));
            case 16: return both("samples" + s, f -> f.samples(a), m -> m.samples(a));
            case 17: return both("setMode" + s, f -> f.setMode(a), m -> m.setMode(a));
            case 18: return both("setLimits" + s, f -> f.setLimits(a, b, c, d), m -> m.setLimits(a, b, c, d));
            case 19:
                return both("setPersistence" + s, f -> f.setPersistence(a, b), m -> m.setPersistence(a, b));
            case 20: return both("hasAlarm" + s, f -> f.hasAlarm(a), m -> m.hasAlarm(a));
            case 21: return both("alarms" + s, f -> f.alarms(a), m -> m.alarms(a));
            case 22: return both("undo", f -> f.undo(), m -> m.undo());
            default: return both("digest", f -> f.digest(), m -> m.digest());
        }
    }
}
