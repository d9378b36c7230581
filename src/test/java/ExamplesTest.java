/** The five examples of the document. */
public final class ExamplesTest {
    private static final Class<?> ARGUMENT = IllegalArgumentException.class;
    private static final Class<?> STATE = IllegalStateException.class;

    public static void main(String[] args) {
        planWithSubcommutation();
        sendingAndReceiving();
        lostBit();
        noPlan();
        exceptions();
        Checks.finish("ExamplesTest");
    }

    private static void planWithSubcommutation() {
        FrameCommutator x = new FrameCommutator();
        Checks.same("1: addParameter(1)", x.addParameter(1), 0);
        Checks.same("1: addParameter(-2)", x.addParameter(-2), 1);
        Checks.same("1: plan()", x.plan(), 6);
        Checks.same("1: slot(0, 0, 1)", x.slot(0, 0, 1), 3);
        Checks.same("1: slot(1, 0, 1)", x.slot(1, 0, 1), 4);
        Checks.same("1: slot(1, 1, 0)", x.slot(1, 1, 0), 2);
        Checks.same("1: efficiency()", x.efficiency(), 0.1875);
    }

    private static void sendingAndReceiving() {
        FrameCommutator x = new FrameCommutator();
        Checks.same("2: setFrame(6, 2)", x.setFrame(6, 2), 12);
        Checks.same("2: addParameter(1)", x.addParameter(1), 0);
        Checks.same("2: plan()", x.plan(), 2);
        Checks.same("2: setValue(0, 170)", x.setValue(0, 170), 0);
        Checks.same("2: send(3)", x.send(3), 144);
        Checks.same("2: receive(144)", x.receive(144), 2);
        Checks.same("2: receiverState()", x.receiverState(), 2);
        Checks.same("2: received(0)", x.received(0), 2);
        Checks.same("2: sample(0)", x.sample(0), 170);
    }

    private static void lostBit() {
        FrameCommutator x = new FrameCommutator();
        Checks.same("3: setFrame(6, 1)", x.setFrame(6, 1), 6);
        Checks.same("3: addParameter(1)", x.addParameter(1), 0);
        Checks.same("3: plan()", x.plan(), 1);
        Checks.same("3: send(6)", x.send(6), 288);
        Checks.same("3: disturb(1, 150)", x.disturb(1, 150), 287);
        Checks.same("3: receive(287)", x.receive(287), 5);
        Checks.same("3: received(2)", x.received(2), 1);
        Checks.same("3: received(0)", x.received(0), 5);
    }

    private static void noPlan() {
        FrameCommutator x = new FrameCommutator();
        Checks.same("4: setFrame(6, 2)", x.setFrame(6, 2), 12);
        Checks.same("4: addParameter(2)", x.addParameter(2), 0);
        Checks.same("4: plan()", x.plan(), -10);
        Checks.same("4: addParameter(-8)", x.addParameter(-8), 1);
        Checks.same("4: plan() again", x.plan(), -10);
    }

    private static void exceptions() {
        FrameCommutator x = new FrameCommutator();
        Checks.refused(x, "5: setFrame(5, 1)", ARGUMENT, () -> x.setFrame(5, 1));
        Checks.refused(x, "5: send(1)", STATE, () -> x.send(1));
        Checks.refused(x, "5: receive(1)", STATE, () -> x.receive(1));
        Checks.refused(x, "5: undo()", STATE, () -> x.undo());
    }
}
