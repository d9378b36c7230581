/** Promises 14 to 18: the receiver, its counts, and the samples. */
public final class ReceivingTest {
    private static final Class<?> ARGUMENT = IllegalArgumentException.class;
    private static final Class<?> STATE = IllegalStateException.class;
    private static final Class<?> INDEX = IndexOutOfBoundsException.class;
    private static final int NONE = FrameCommutator.NONE;
    private static final String SYNC = Streams.SYNC;

    public static void main(String[] args) {
        searchCheckLock();
        searchThroughNoise();
        searchBeginsWithoutBits();
        checkThatFails();
        checkThatFailsByABit();
        earlySlip();
        earlySlipKeepsTheBit();
        lateSlip();
        miss();
        missKeepsTheBit();
        threeMisses();
        searchAfterMissesBeginsWithoutBits();
        missesInARow();
        slipsEndTheRowOfMisses();
        badMinorFrames();
        samplesByNumberAndColumn();
        oneByOneOrAllAtOnce();
        receiveWrongly();
        receivedWrongly();
        samplesWrongly();
        Checks.finish("ReceivingTest");
    }

    private static void samplesAre(String what, FrameCommutator x, int... due) {
        for (int i = 0; i < due.length; i++) {
            Checks.same("17: " + what + ", sample(" + i + ")", x.sample(i), due[i]);
        }
    }

    /** Takes bits, of which these many complete minor frames that are delivered. */
    private static void take(String what, FrameCommutator x, int bits, int delivered, int state) {
        Checks.same("14: " + what + ", receive(" + bits + ")", x.receive(bits), delivered);
        Checks.same("15: " + what + ", receiverState()", x.receiverState(), state);
    }

    private static void searchCheckLock() {
        FrameCommutator x = Streams.loaded(Streams.lock() + Streams.frame(0, 7, 8, 9));
        take("15 bits of the pattern", x, 15, 0, 0);
        Checks.countsAre("searching", x, 0, 0, 0, 0, 0, 0);
        take("the pattern", x, 1, 0, 1);
        Checks.countsAre("checking", x, 0, 0, 0, 0, 0, 1);
        take("a minor frame that is ignored", x, 32, 0, 1);
        samplesAre("ignored", x, NONE, NONE, NONE);
        take("15 bits of the next pattern", x, 15, 0, 1);
        take("the next pattern", x, 1, 0, 2);
        take("all but a bit", x, 31, 0, 2);
        Checks.same("18: not yet", x.samples(0), 0);
        take("a minor frame", x, 1, 1, 2);
        samplesAre("delivered", x, 4, 5, 6);
        Checks.same("18: one", x.samples(2), 1);
        take("another one", x, 48, 1, 2);
        samplesAre("delivered again", x, 7, 8, 9);
        Checks.same("18: two", x.samples(2), 2);
        Checks.countsAre("locked", x, 2, 0, 0, 0, 0, 1);
    }

    private static void searchThroughNoise() {
        String noise = "00111010111" + "1110101110011";
        FrameCommutator x = Streams.loaded(noise + Streams.lock());
        take("noise", x, noise.length() + 15, 0, 0);
        take("the pattern behind it", x, 1, 0, 1);
        take("the rest", x, 80, 1, 2);
        samplesAre("behind noise", x, 4, 5, 6);
    }

    private static void searchBeginsWithoutBits() {
        FrameCommutator x = Streams.loadedWithoutParameters(SYNC.substring(0, 10));
        take("10 bits of the pattern", x, 10, 0, 0);
        x.setFrame(6, 2);
        x.plan();
        Streams.put(x, SYNC.substring(10) + SYNC, Streams.word(85) + Streams.word(85) + Streams.word(85));
        take("the other 6 do not count", x, 6, 0, 0);
        take("a whole pattern", x, 16, 0, 1);
        FrameCommutator y = Streams.loaded(SYNC.substring(1) + SYNC);
        take("the pattern less a bit", y, 30, 0, 0);
        take("the pattern", y, 1, 0, 1);
    }

    private static void checkThatFails() {
        String stream = Streams.frame(0, 1, 2, 3) + Streams.word(0) + SYNC
                + Streams.body(0, 4, 5, 6) + Streams.frame(1, 7, 8, 9);
        FrameCommutator x = Streams.loaded(stream);
        take("checking", x, 63, 0, 1);
        take("no pattern", x, 1, 0, 0);
        take("7 bits more", x, 7, 0, 0);
        take("a pattern that began in the 16 bits", x, 1, 0, 1);
        Checks.countsAre("checking again", x, 0, 0, 0, 0, 0, 2);
        take("the rest", x, 32 + 48, 1, 2);
        samplesAre("after a check that failed", x, 7, 8, 9);
        Checks.countsAre("after a check that failed", x, 1, 0, 0, 0, 0, 2);
    }

    private static void checkThatFailsByABit() {
        FrameCommutator late = Streams.loaded(Streams.frame(0, 1, 2, 3) + "0" + SYNC);
        take("a bit too late", late, 64, 0, 0);
        take("is no slip while checking", late, 1, 0, 1);
        Checks.countsAre("late while checking", late, 0, 0, 0, 0, 0, 2);
        String early = Streams.frame(0, 1, 2, 3);
        FrameCommutator x = Streams.loaded(early.substring(0, 47) + SYNC + "0");
        take("a bit too early", x, 64, 0, 0);
        Checks.countsAre("early while checking", x, 0, 0, 0, 0, 0, 1);
    }

    private static String shortened(String frame) {
        return frame.substring(0, frame.length() - 1);
    }

    private static void earlySlip() {
        FrameCommutator x = Streams.loaded(Streams.lock() + shortened(Streams.frame(0, 7, 8, 9))
                + Streams.frame(1, 10, 11, 12));
        take("a minor frame less a bit", x, 144, 2, 2);
        samplesAre("with the pattern's first bit", x, 7, 8, 9);
        take("15 bits", x, 15, 0, 2);
        Checks.countsAre("before the slip", x, 2, 0, 0, 0, 0, 1);
        take("16 bits", x, 1, 0, 2);
        Checks.countsAre("early slip", x, 2, 0, 1, 0, 0, 1);
        take("all but a bit", x, 30, 0, 2);
        take("the minor frame behind it", x, 1, 1, 2);
        samplesAre("behind an early slip", x, 10, 11, 12);
        Checks.same("11: nothing is left", x.pending(), 0);
    }

    private static void earlySlipKeepsTheBit() {
        FrameCommutator x = Streams.loaded(Streams.lock() + shortened(Streams.frame(0, 7, 8, 9))
                + Streams.frame(128, 10, 11, 12) + Streams.frame(0, 13, 14, 15));
        take("word 2 is 128", x, 191, 3, 2);
        Checks.countsAre("a bad one behind an early slip", x, 3, 1, 1, 0, 0, 1);
        take("the next one", x, 48, 1, 2);
        samplesAre("the next one", x, 13, 14, 15);
    }

    private static void lateSlip() {
        FrameCommutator x = Streams.loaded(Streams.lock() + Streams.frame(0, 7, 8, 9) + "0"
                + Streams.frame(1, 10, 11, 12));
        take("a minor frame and a bit", x, 160, 2, 2);
        Checks.countsAre("before the slip", x, 2, 0, 0, 0, 0, 1);
        take("one more bit", x, 1, 0, 2);
        Checks.countsAre("late slip", x, 2, 0, 0, 1, 0, 1);
        take("all but a bit", x, 31, 0, 2);
        take("the minor frame behind it", x, 1, 1, 2);
        samplesAre("behind a late slip", x, 10, 11, 12);
    }

    private static void miss() {
        FrameCommutator x = Streams.loaded(Streams.lock() + Streams.broken(0, 7, 8, 9)
                + Streams.frame(1, 10, 11, 12));
        take("a wrong pattern", x, 112, 1, 2);
        Checks.countsAre("before the miss", x, 1, 0, 0, 0, 0, 1);
        take("one more bit", x, 1, 0, 2);
        Checks.countsAre("miss", x, 1, 0, 0, 0, 1, 1);
        take("all but a bit", x, 30, 0, 2);
        take("the minor frame is delivered", x, 1, 1, 2);
        samplesAre("behind a miss", x, 7, 8, 9);
        take("the next one", x, 48, 1, 2);
        Checks.countsAre("still locked", x, 3, 0, 0, 0, 1, 1);
    }

    private static void missKeepsTheBit() {
        FrameCommutator x = Streams.loaded(Streams.lock() + Streams.broken(128, 7, 8, 9));
        take("word 2 is 128", x, 144, 2, 2);
        Checks.countsAre("a bad one behind a miss", x, 2, 1, 0, 0, 1, 1);
        samplesAre("a bad one is only counted", x, 4, 5, 6);
    }

    private static void threeMisses() {
        FrameCommutator x = Streams.loaded(Streams.lock() + Streams.broken(0, 7, 8, 9)
                + Streams.broken(1, 10, 11, 12) + Streams.broken(0, 13, 14, 15)
                + Streams.frame(1, 16, 17, 18) + Streams.frame(0, 19, 20, 21)
                + Streams.broken(1, 22, 23, 24) + Streams.broken(0, 25, 26, 27));
        take("two misses", x, 208, 3, 2);
        take("the third", x, 1, 0, 0);
        Checks.countsAre("three misses", x, 3, 0, 0, 0, 3, 1);
        take("the rest of the minor frame is lost", x, 31, 0, 0);
        take("checking again", x, 16, 0, 1);
        take("locked again", x, 80, 1, 2);
        samplesAre("locked again", x, 19, 20, 21);
        take("two misses more", x, 96, 2, 2);
        Checks.countsAre("the row begins anew", x, 6, 0, 0, 0, 5, 2);
    }

    private static void searchAfterMissesBeginsWithoutBits() {
        String misses = Streams.lock() + Streams.broken(0, 7, 8, 9) + Streams.broken(1, 10, 11, 12);
        FrameCommutator x = Streams.loaded(misses + "00000" + SYNC + "000" + SYNC);
        take("a pattern that began in the 17 bits", x, 192 + 21, 3, 0);
        take("one that began behind them", x, 19, 0, 1);
        FrameCommutator y = Streams.loaded(misses + "0000000000000000" + SYNC + SYNC);
        take("a pattern that began with the one more bit", y, 192 + 32, 3, 0);
        take("the next one", y, 16, 0, 1);
        FrameCommutator z = Streams.loaded(misses + "00000000000000000" + SYNC);
        take("17 bits", z, 192 + 17 + 15, 3, 0);
        take("the pattern right behind them", z, 1, 0, 1);
    }

    private static void missesInARow() {
        FrameCommutator x = Streams.loaded(Streams.lock() + Streams.broken(0, 1, 1, 1)
                + Streams.broken(1, 2, 2, 2) + Streams.frame(0, 3, 3, 3) + Streams.broken(1, 4, 4, 4)
                + Streams.broken(0, 5, 5, 5) + Streams.broken(1, 6, 6, 6));
        take("two misses, a pattern, two misses", x, 7 * 48, 6, 2);
        Checks.countsAre("four misses", x, 6, 0, 0, 0, 4, 1);
        take("one more", x, 48, 0, 0);
        Checks.countsAre("the third in a row", x, 6, 0, 0, 0, 5, 1);
    }

    private static void slipsEndTheRowOfMisses() {
        String twice = Streams.broken(0, 1, 1, 1) + Streams.broken(1, 3, 3, 3);
        FrameCommutator early = Streams.loaded(Streams.lock() + shortened(twice)
                + Streams.frame(0, 9, 9, 9) + twice);
        take("early slip between misses", early, 7 * 48 - 1, 6, 2);
        Checks.countsAre("early slip between misses", early, 6, 0, 1, 0, 4, 1);
        FrameCommutator late = Streams.loaded(Streams.lock() + twice + "0"
                + Streams.frame(0, 9, 9, 9) + twice);
        take("late slip between misses", late, 7 * 48 + 1, 6, 2);
        Checks.countsAre("late slip between misses", late, 6, 0, 0, 1, 4, 1);
    }

    private static void badMinorFrames() {
        FrameCommutator x = Streams.loaded(Streams.lock() + Streams.frame(2, 7, 8, 9)
                + Streams.frame(255, 10, 11, 12) + Streams.frame(1, 13, 14, 15));
        take("word 2 is M", x, 144, 2, 2);
        Checks.countsAre("word 2 is M", x, 2, 1, 0, 0, 0, 1);
        samplesAre("word 2 is M", x, 4, 5, 6);
        Checks.same("18: word 2 is M", x.samples(1), 1);
        take("word 2 is 255", x, 48, 1, 2);
        Checks.countsAre("word 2 is 255", x, 3, 2, 0, 0, 0, 1);
        take("word 2 is M - 1", x, 48, 1, 2);
        Checks.countsAre("word 2 is M - 1", x, 4, 2, 0, 0, 0, 1);
        samplesAre("word 2 is M - 1", x, 13, 14, 15);
        Checks.same("18: two", x.samples(1), 2);
    }

    private static void samplesByNumberAndColumn() {
        FrameCommutator x = Streams.planned(-2, -2);
        Streams.put(x, Streams.frame(1, 1, 2, 3) + Streams.frame(0, 4, 5, 6)
                + Streams.frame(0, 7, 8, 9), Streams.body(0, 0, 85, 85).substring(8));
        take("minor frame 0 twice", x, 144, 2, 2);
        samplesAre("the number tells the plan's row", x, 7, NONE);
        Checks.same("18: of minor frame 0", x.samples(0), 2);
        Checks.same("18: of minor frame 1", x.samples(1), 0);
        FrameCommutator y = Streams.planned(3);
        Streams.put(y, Streams.lock() + Streams.frame(0, 9, 8, 7), Streams.body(0, 0, 0, 0).substring(8));
        take("three samples a minor frame", y, 96, 1, 2);
        samplesAre("the last column is the latest", y, 6);
        Checks.same("18: three samples", y.samples(0), 3);
        y.receive(48);
        samplesAre("the last column again", y, 7);
        Checks.same("18: six samples", y.samples(0), 6);
    }

    private static void oneByOneOrAllAtOnce() {
        String stream = Streams.lock() + shortened(Streams.frame(0, 7, 8, 9))
                + Streams.broken(1, 10, 11, 12) + Streams.frame(0, 1, 1, 1) + "0"
                + Streams.frame(3, 2, 2, 2) + Streams.broken(0, 3, 3, 3);
        FrameCommutator whole = Streams.loaded(stream);
        FrameCommutator pieces = Streams.loaded(stream);
        int delivered = 0;
        for (int i = 0; i < stream.length(); i++) {
            delivered += pieces.receive(1);
        }
        Checks.same("14: all at once", whole.receive(stream.length()), delivered);
        Checks.same("14: the same state", whole.digest(), pieces.digest());
    }

    private static void receiveWrongly() {
        FrameCommutator x = Streams.loaded(Streams.lock());
        for (int count : new int[] {0, -1, 2049, Integer.MIN_VALUE, Integer.MAX_VALUE}) {
            Checks.refused(x, "14: receive(" + count + ")", ARGUMENT, () -> x.receive(count));
        }
        Checks.refused(x, "14: fewer bits", STATE, () -> x.receive(97));
        Checks.refused(x, "14: far fewer bits", STATE, () -> x.receive(2048));
        Checks.same("14: all bits", x.receive(96), 1);
        Checks.refused(x, "14: no bits", STATE, () -> x.receive(1));
        FrameCommutator y = new FrameCommutator();
        Checks.refused(y, "14: no plan", STATE, () -> y.receive(1));
        Checks.refused(y, "14: no plan and a wrong count", ARGUMENT, () -> y.receive(0));
        FrameCommutator full = new FrameCommutator();
        full.setFrame(16, 1);
        full.plan();
        full.send(16);
        Checks.same("14: receive(2048)", full.receive(2048), 15);
        Checks.same("14: nothing is left", full.pending(), 0);
    }

    private static void receivedWrongly() {
        FrameCommutator x = Streams.loaded(Streams.lock());
        Checks.refused(x, "16: received(6)", ARGUMENT, () -> x.received(6));
        Checks.refused(x, "16: received(-1)", ARGUMENT, () -> x.received(-1));
    }

    private static void samplesWrongly() {
        FrameCommutator x = Streams.loaded(Streams.lock());
        for (int parameter : new int[] {-1, 3, 12, Integer.MAX_VALUE}) {
            Checks.refused(x, "17: sample(" + parameter + ")", INDEX, () -> x.sample(parameter));
            Checks.refused(x, "18: samples(" + parameter + ")", INDEX, () -> x.samples(parameter));
        }
    }
}
