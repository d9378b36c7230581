/** Sentences of promises 14 to 18, and of "Receiving", that name a boundary case. */
public final class ReceiverBoundsTest {
    private static final Class<?> ARGUMENT = IllegalArgumentException.class;
    private static final Class<?> STATE = IllegalStateException.class;
    private static final int NONE = FrameCommutator.NONE;
    private static final String SYNC = Streams.SYNC;
    private static final String LOCK = Streams.lock();
    private static final String BROKEN = Streams.broken(0, 7, 8, 9);
    private static final int SEARCHING = 0;
    private static final int CHECKING = 1;
    private static final int LOCKED = 2;

    public static void main(String[] args) {
        counts();
        bitsOfTheChannel();
        noPlanToReceive();
        kindsOfCounts();
        beginsBySearching();
        sixteenBitsOfASearch();
        everyFrameSize();
        patternThatLacksABit();
        checkThatFailsOnAnyBit();
        bitsOfAFailedCheckCount();
        missOnAnyBit();
        earlySlipOfAnyBit();
        lateSlipOfEitherBit();
        slipsOfTwoBits();
        slipsOfAPatternInACheck();
        thirdMissInARow();
        rowOfMissesBeginsAnew();
        earlySlipBehindTwoMisses();
        lateSlipBehindTwoMisses();
        searchBehindMissesTakesNoBitsAlong();
        bitBehindAMissIsTaken();
        halfwayThroughALateSlip();
        numbersNotLessThanM();
        badOnesAreOnlyCounted();
        noSampleAtFirst();
        noSampleOfAnotherMinorFrame();
        columnsInAscendingOrder();
        newLayoutKeepsTheCounts();
        for (boolean byParameter : new boolean[] {false, true}) {
            newLayoutLeavesNoMisses(byParameter);
            newLayoutLeavesNoBits(byParameter);
            newLayoutAnywhere(byParameter);
        }
        Checks.finish("ReceiverBoundsTest");
    }

    private static FrameCommutator taken(String stream) {
        FrameCommutator x = Streams.loaded(stream);
        x.receive(stream.length());
        return x;
    }

    private static void stateIs(String what, FrameCommutator x, int due) {
        Checks.same("15: " + what, x.receiverState(), due);
    }

    private static String without(String bits, int index) {
        return bits.substring(0, index) + bits.substring(index + 1);
    }

    private static String flipped(String bits, int index) {
        char other = bits.charAt(index) == '0' ? '1' : '0';
        return bits.substring(0, index) + other + bits.substring(index + 1);
    }

    /** "count: number of bits, 1 to 2048" */
    private static void counts() {
        Bounds.range("14: count", Streams::full, 1, 2048, ARGUMENT, (x, count) -> x.receive(count));
    }

    /** "or the channel has fewer bits" */
    private static void bitsOfTheChannel() {
        FrameCommutator x = Streams.loaded(LOCK);
        Checks.refused(x, "14: one bit too many", STATE, () -> x.receive(97));
        Checks.same("14: all bits", x.receive(96), 1);
        Checks.refused(x, "14: no bit is left", STATE, () -> x.receive(1));
        FrameCommutator y = Streams.full();
        y.receive(1);
        Checks.refused(y, "14: 2047 bits", STATE, () -> y.receive(2048));
        Checks.same("14: all 2047", y.receive(2047), 15);
    }

    private static void noPlanToReceive() {
        FrameCommutator x = Streams.withRates(6, 2, 1);
        Checks.refused(x, "14: no plan yet", STATE, () -> x.receive(1));
        FrameCommutator y = Streams.loaded(LOCK);
        y.addParameter(-8);
        Checks.refused(y, "14: no plan any more", STATE, () -> y.receive(1));
    }

    /** "IllegalArgumentException if what is out of range" */
    private static void kindsOfCounts() {
        Bounds.range("16: what", FrameCommutator::new, 0, 5, ARGUMENT, (x, what) -> x.received(what));
    }

    /** "it begins by searching" */
    private static void beginsBySearching() {
        stateIs("a new object", new FrameCommutator(), SEARCHING);
        Checks.countsAre("a new object", new FrameCommutator(), 0, 0, 0, 0, 0, 0);
        stateIs("bits that nobody has taken", Streams.loaded(LOCK), SEARCHING);
    }

    /** "the latest 16 bits that it has taken since it began to search": fewer are not enough. */
    private static void sixteenBitsOfASearch() {
        for (int begin = 0; begin <= 16; begin++) {
            FrameCommutator x = taken(SYNC.substring(begin) + "0");
            stateIs("a pattern without its first " + begin + " bits", x, begin == 0 ? CHECKING : SEARCHING);
            Checks.same("16: checking", x.received(5), begin == 0 ? 1 : 0);
        }
        for (int end = 1; end <= 16; end++) {
            int due = end < 16 ? SEARCHING : CHECKING;
            stateIs(end + " bits of a pattern", taken(SYNC.substring(0, end)), due);
        }
        stateIs("a pattern behind another's begin", taken(SYNC.substring(0, 15) + SYNC), CHECKING);
    }

    /** "When all W - 2 words have been taken, the minor frame is complete." */
    private static void everyFrameSize() {
        for (int words = 6; words <= 16; words++) {
            int body = 8 * (words - 2);
            FrameCommutator x = Streams.plannedAs(words, 1, 1);
            x.setValue(0, 200);
            x.send(3);
            x.receive(15);
            stateIs("15 bits", x, SEARCHING);
            x.receive(1);
            stateIs("16 bits", x, CHECKING);
            Checks.same("14: a minor frame that is ignored", x.receive(body + 15), 0);
            stateIs("all but the last bit of the next pattern", x, CHECKING);
            x.receive(1);
            stateIs("the next pattern", x, LOCKED);
            Checks.same("14: all but the last bit of " + words + " words", x.receive(body - 1), 0);
            Checks.same("17: not yet", x.sample(0), NONE);
            Checks.same("14: the last bit of " + words + " words", x.receive(1), 1);
            Checks.same("17: delivered", x.sample(0), 200);
            Checks.same("14: the next minor frame", x.receive(body + 16), 1);
        }
    }

    private static void patternThatLacksABit() {
        for (int i = 0; i < 16; i++) {
            stateIs("pattern with bit " + i + " flipped", taken(flipped(SYNC, i)), SEARCHING);
        }
    }

    /** "a checking receiver searches again" */
    private static void checkThatFailsOnAnyBit() {
        for (int i = 0; i < 16; i++) {
            FrameCommutator x = taken(Streams.frame(0, 1, 2, 3) + flipped(SYNC, i));
            stateIs("a check with bit " + i + " flipped", x, SEARCHING);
            Checks.countsAre("a check with bit " + i + " flipped", x, 0, 0, 0, 0, 0, 1);
        }
    }

    /** "and the 16 bits count as the latest ones taken since it began to search" */
    private static void bitsOfAFailedCheckCount() {
        for (int before = 1; before <= 17; before++) {
            String zeros = "00000000000000000".substring(0, before);
            FrameCommutator x = taken(Streams.frame(0, 1, 2, 3) + zeros + SYNC);
            stateIs("a pattern " + before + " bits late in a check", x, CHECKING);
            Checks.countsAre("a pattern " + before + " bits late in a check", x, 0, 0, 0, 0, 0, 2);
        }
        FrameCommutator y = taken(without(Streams.frame(0, 1, 2, 3), 47) + SYNC + "000");
        stateIs("a pattern that began before the 16 bits", y, SEARCHING);
    }

    /** "Otherwise this is a miss" */
    private static void missOnAnyBit() {
        for (int i = 0; i < 16; i++) {
            String wrong = flipped(Streams.frame(0, 7, 8, 9), i);
            FrameCommutator x = taken(LOCK + wrong + Streams.frame(1, 1, 1, 1));
            stateIs("bit " + i + " is flipped", x, LOCKED);
            Checks.countsAre("bit " + i + " is flipped", x, 3, 0, 0, 0, 1, 1);
            Checks.same("18: all are delivered", x.samples(0), 3);
        }
    }

    /** "if they are equal, this is an early slip" */
    private static void earlySlipOfAnyBit() {
        for (int i = 16; i < 48; i++) {
            String shorter = without(Streams.frame(0, 7, 8, 9), i);
            FrameCommutator x = taken(LOCK + shorter + Streams.frame(1, 10, 11, 12));
            Checks.countsAre("bit " + i + " is lost", x, 3, 0, 1, 0, 0, 1);
            stateIs("bit " + i + " is lost", x, LOCKED);
            Checks.same("17: behind an early slip", x.sample(2), 12);
        }
    }

    /** "if they are equal, this is a late slip" */
    private static void lateSlipOfEitherBit() {
        for (int bit = 0; bit < 2; bit++) {
            FrameCommutator x = taken(LOCK + Streams.frame(0, 7, 8, 9) + bit + Streams.frame(1, 10, 11, 12));
            Checks.countsAre("a " + bit + " is added", x, 3, 0, 0, 1, 0, 1);
            stateIs("a " + bit + " is added", x, LOCKED);
            Checks.same("17: behind a late slip", x.sample(2), 12);
        }
    }

    /** Slips are found by one bit; with two, each pattern is missed until the receiver searches. */
    private static void slipsOfTwoBits() {
        String frame = Streams.frame(0, 7, 8, 9);
        String rest = frame + frame + frame;
        FrameCommutator lost = taken(LOCK + frame.substring(0, 46) + rest);
        Checks.countsAre("two bits are lost", lost, 4, 0, 0, 0, 3, 1);
        stateIs("two bits are lost", lost, SEARCHING);
        FrameCommutator added = taken(LOCK + frame + "00" + rest);
        Checks.countsAre("two bits are added", added, 4, 0, 0, 0, 3, 1);
        stateIs("two bits are added", added, SEARCHING);
    }

    /** Only "a locked receiver" looks for slips. */
    private static void slipsOfAPatternInACheck() {
        String frame = Streams.frame(0, 1, 2, 3);
        FrameCommutator early = taken(without(frame, 40) + frame + frame + frame);
        Checks.countsAre("a bit is lost in a check", early, 1, 0, 0, 0, 0, 2);
        FrameCommutator late = taken(frame + "0" + frame + frame);
        Checks.countsAre("a bit is added in a check", late, 1, 0, 0, 0, 0, 2);
    }

    /** "if it is 3 then, it becomes 0, and the receiver searches again" */
    private static void thirdMissInARow() {
        StringBuilder stream = new StringBuilder(LOCK);
        for (int misses = 1; misses <= 3; misses++) {
            stream.append(BROKEN);
            FrameCommutator x = taken(stream.toString());
            stateIs(misses + " misses", x, misses < 3 ? LOCKED : SEARCHING);
            Checks.countsAre(misses + " misses", x, Math.min(3, 1 + misses), 0, 0, 0, misses, 1);
        }
    }

    /** "it becomes 0": two misses more do not make the receiver search. */
    private static void rowOfMissesBeginsAnew() {
        String three = LOCK + BROKEN + BROKEN + BROKEN;
        FrameCommutator x = taken(three + LOCK + BROKEN + BROKEN);
        stateIs("two misses behind three", x, LOCKED);
        Checks.countsAre("two misses behind three", x, 6, 0, 0, 0, 5, 2);
        FrameCommutator y = taken(three + LOCK + BROKEN + BROKEN + BROKEN);
        stateIs("three misses behind three", y, SEARCHING);
        Checks.countsAre("three misses behind three", y, 6, 0, 0, 0, 6, 2);
        FrameCommutator z = taken(LOCK + BROKEN + BROKEN + Streams.frame(1, 1, 1, 1) + BROKEN + BROKEN);
        stateIs("a pattern between two and two", z, LOCKED);
        Checks.countsAre("a pattern between two and two", z, 6, 0, 0, 0, 4, 1);
    }

    private static void earlySlipBehindTwoMisses() {
        String two = BROKEN + Streams.broken(1, 3, 3, 3);
        FrameCommutator x = taken(LOCK + without(two, 95) + Streams.frame(0, 1, 1, 1) + two);
        stateIs("an early slip between two and two", x, LOCKED);
        Checks.countsAre("an early slip between two and two", x, 6, 0, 1, 0, 4, 1);
        FrameCommutator y = taken(LOCK + without(two, 95) + Streams.frame(0, 1, 1, 1) + two + BROKEN);
        stateIs("and a third one", y, SEARCHING);
    }

    private static void lateSlipBehindTwoMisses() {
        String two = BROKEN + Streams.broken(1, 3, 3, 3);
        FrameCommutator x = taken(LOCK + two + "0" + Streams.frame(0, 1, 1, 1) + two);
        stateIs("a late slip between two and two", x, LOCKED);
        Checks.countsAre("a late slip between two and two", x, 6, 0, 0, 1, 4, 1);
        FrameCommutator y = taken(LOCK + two + "0" + Streams.frame(0, 1, 1, 1) + two + BROKEN);
        stateIs("and a third one", y, SEARCHING);
    }

    /** "the receiver searches again (without any bits taken)" */
    private static void searchBehindMissesTakesNoBitsAlong() {
        String misses = LOCK + BROKEN + BROKEN;
        for (int zeros = 2; zeros <= 18; zeros++) {
            FrameCommutator x = taken(misses + "000000000000000000".substring(0, zeros) + SYNC);
            int due = zeros < 17 ? SEARCHING : CHECKING;
            stateIs("a pattern behind " + zeros + " bits, of which 17 are the miss", x, due);
            Checks.same("16: the third miss", x.received(4), 3);
        }
    }

    /** "the one more bit is the first bit of word 2" */
    private static void bitBehindAMissIsTaken() {
        FrameCommutator x = taken(LOCK + Streams.broken(129, 7, 8, 9));
        Checks.countsAre("word 2 is 129", x, 2, 1, 0, 0, 1, 1);
        FrameCommutator y = taken(LOCK + Streams.broken(1, 7, 8, 9));
        Checks.countsAre("word 2 is 1", y, 2, 0, 0, 0, 1, 1);
        Checks.same("17: the last column", y.sample(2), 9);
    }

    /** "it takes one more bit": the call may end before that bit. */
    private static void halfwayThroughALateSlip() {
        FrameCommutator x = Streams.loaded(LOCK + "0" + Streams.frame(1, 7, 8, 9));
        x.receive(112);
        stateIs("16 bits that are no pattern", x, LOCKED);
        Checks.countsAre("16 bits that are no pattern", x, 1, 0, 0, 0, 0, 1);
        x.receive(1);
        Checks.countsAre("one more", x, 1, 0, 0, 1, 0, 1);
        FrameCommutator y = Streams.loaded(LOCK + BROKEN);
        y.receive(112);
        Checks.countsAre("not yet a miss", y, 1, 0, 0, 0, 0, 1);
        y.receive(1);
        Checks.countsAre("a miss", y, 1, 0, 0, 0, 1, 1);
    }

    /** "bad if its word 2 is not less than M" */
    private static void numbersNotLessThanM() {
        for (int minors = 1; minors <= 8; minors *= 2) {
            for (int number : new int[] {0, minors - 1, minors, minors + 1, 127, 128, 255}) {
                FrameCommutator x = Streams.plannedAs(6, minors, 1);
                x.send(2);
                int sent = minors == 1 ? 0 : 1;
                for (int i = 0; i < 8; i++) {
                    if (((number ^ sent) >> i & 1) == 1) {
                        x.disturb(0, 48 + 23 - i);
                    }
                }
                Checks.same("14: bad ones are delivered", x.receive(96), 1);
                Checks.same("16: number " + number + " of " + minors, x.received(1), number < minors ? 0 : 1);
                Checks.same("18: number " + number + " of " + minors, x.samples(0), number < minors ? 1 : 0);
            }
        }
    }

    /** "then it is only counted" */
    private static void badOnesAreOnlyCounted() {
        FrameCommutator x = Streams.loaded(LOCK + Streams.frame(2, 200, 200, 200));
        x.setLimits(0, 0, 0, 100);
        Checks.same("14: both", x.receive(144), 2);
        Checks.countsAre("the second is bad", x, 2, 1, 0, 0, 0, 1);
        Checks.same("17: not of a bad one", x.sample(0), 4);
        Checks.same("18: not of a bad one", x.samples(0), 1);
        Checks.same("22: not of a bad one", x.hasAlarm(0), false);
    }

    /** "NONE if none has been received" */
    private static void noSampleAtFirst() {
        FrameCommutator x = Streams.loaded(Streams.frame(0, 1, 2, 3) + Streams.frame(1, 0, 0, 0));
        Checks.same("17: nothing is received", x.sample(0), NONE);
        x.receive(95);
        Checks.same("17: all but the last bit", x.sample(0), NONE);
        Checks.same("18: all but the last bit", x.samples(0), 0);
        x.receive(1);
        Checks.same("17: a sample of 0", x.sample(0), 0);
        Checks.same("18: a sample of 0", x.samples(0), 1);
    }

    private static void noSampleOfAnotherMinorFrame() {
        FrameCommutator x = Streams.plannedAs(6, 8, -8, -8);
        x.send(9);
        x.receive(8 * 48);
        Checks.same("17: minor frame 0 was ignored", x.sample(0), NONE);
        Checks.same("17: minor frame 1 was delivered", x.sample(1), 0);
        x.receive(48);
        Checks.same("17: minor frame 0 again", x.sample(0), 0);
        Checks.same("18: one of each", x.samples(0), x.samples(1));
    }

    /** "in ascending order of the columns" */
    private static void columnsInAscendingOrder() {
        FrameCommutator x = Streams.planned(3);
        x.setLimits(0, 0, 0, 100);
        x.setPersistence(0, 2);
        Streams.put(x, LOCK + Streams.frame(0, 5, 101, 102), Streams.body(0, 0, 0, 0).substring(8));
        x.receive(144);
        Checks.same("17: the last column", x.sample(0), 102);
        Checks.same("22: two in a row at the end", x.hasAlarm(0), true);
        FrameCommutator y = Streams.planned(3);
        y.setLimits(0, 0, 0, 100);
        y.setPersistence(0, 2);
        Streams.put(y, LOCK + Streams.frame(0, 101, 102, 5), Streams.body(0, 0, 0, 0).substring(8));
        y.receive(144);
        Checks.same("22: ended by the last column", y.hasAlarm(0), false);
        Checks.same("23: two in a row at the begin", y.alarms(0), 1);
    }

    /** "a count of the receiver since the beginning" */
    private static void newLayoutKeepsTheCounts() {
        String stream = LOCK + without(Streams.frame(0, 7, 8, 9), 40) + Streams.frame(2, 1, 1, 1) + "0"
                + Streams.frame(1, 1, 1, 1) + BROKEN;
        FrameCommutator x = taken(stream);
        Checks.countsAre("before", x, 5, 1, 1, 1, 1, 1);
        x.setFrame(16, 8);
        Checks.countsAre("behind setFrame", x, 5, 1, 1, 1, 1, 1);
        x.addParameter(1);
        Checks.countsAre("behind addParameter", x, 5, 1, 1, 1, 1, 1);
        x.plan();
        x.send(3);
        x.receive(384);
        Checks.countsAre("more of them", x, 7, 1, 1, 1, 1, 2);
        Checks.same("18: four and two", x.samples(0), 6);
    }

    /** Both calls that begin the link anew, and a plan behind them. */
    private static void renew(FrameCommutator x, boolean byParameter) {
        if (byParameter) {
            x.addParameter(-2);
        } else {
            x.setFrame(6, 2);
        }
        x.plan();
    }

    /** "and with 0 misses in a row" */
    private static void newLayoutLeavesNoMisses(boolean byParameter) {
        FrameCommutator x = Streams.loadedWithoutParameters(LOCK + BROKEN + BROKEN);
        x.receive(192);
        renew(x, byParameter);
        x.send(4);
        x.disturb(0, 96);
        x.disturb(0, 144);
        x.receive(192);
        stateIs("two misses before and two behind", x, LOCKED);
        Checks.same("16: four misses", x.received(4), 4);
    }

    /** "the receiver searches without any bits taken" */
    private static void newLayoutLeavesNoBits(boolean byParameter) {
        for (int taken = 1; taken < 16; taken++) {
            FrameCommutator x = Streams.loadedWithoutParameters(SYNC.substring(0, taken));
            x.receive(taken);
            renew(x, byParameter);
            x.send(1);
            for (int i = 0; i < taken; i++) {
                x.disturb(1, 0);
            }
            x.receive(16 - taken);
            stateIs(taken + " bits before, and the others behind", x, SEARCHING);
        }
    }

    /** The same from wherever the receiver is: behind it all is as with a new one. */
    private static void newLayoutAnywhere(boolean byParameter) {
        String stream = LOCK + BROKEN + "0" + Streams.frame(0, 7, 8, 9);
        for (int taken = 1; taken <= stream.length(); taken++) {
            FrameCommutator x = Streams.loadedWithoutParameters(stream);
            x.receive(taken);
            int checks = x.received(5);
            renew(x, byParameter);
            stateIs("a new layout", x, SEARCHING);
            x.send(2);
            x.receive(15);
            stateIs("15 bits", x, SEARCHING);
            x.receive(1);
            stateIs("16 bits", x, CHECKING);
            Checks.same("16: one check more", x.received(5), checks + 1);
            Checks.same("14: one is ignored", x.receive(32 + 16 + 31), 0);
            Checks.same("14: one is delivered", x.receive(1), 1);
        }
    }
}
