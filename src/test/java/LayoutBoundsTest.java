/** Sentences of promises 1 to 8, and of "Frames" and "Plan", that name a boundary case. */
public final class LayoutBoundsTest {
    private static final Class<?> ARGUMENT = IllegalArgumentException.class;
    private static final Class<?> STATE = IllegalStateException.class;
    private static final Class<?> INDEX = IndexOutOfBoundsException.class;
    private static final int NONE = FrameCommutator.NONE;
    private static final int[] MINORS = {1, 2, 4, 8};
    private static final int[] PERIODS = {2, 4, 8};

    public static void main(String[] args) {
        layoutAtFirst();
        words();
        minors();
        columns();
        planWithoutParameters();
        everyStartOfAPositiveRate();
        columnsThatCannotBeDivided();
        everyPlaceOfANegativeRate();
        noPlaceForANegativeRate();
        fewerMinorFramesThanThePeriod();
        noSamplesAreStillOrdered();
        equalNumbersInAscendingOrder();
        firstThatCannotBePlaced();
        lastThatCannotBePlaced();
        planThatFailsSavesNothing();
        planLasts();
        planEnds();
        samplesThatAreNone();
        everySample();
        whatOfSlot();
        slotWithoutAPlan();
        ownersOfTheSmallestAndTheLargest();
        ownersOfTheFirstThreeWords();
        shares();
        Checks.finish("LayoutBoundsTest");
    }

    /** "M is 1, 2, 4 or 8, initially 4", "W is 6 to 16, initially 8" */
    private static void layoutAtFirst() {
        Bounds.range("1: minor frames", LayoutBoundsTest::plannedNew, 0, 3, INDEX, (x, m) -> x.ownerOf(m, 7));
        Bounds.range("1: words", LayoutBoundsTest::plannedNew, 0, 7, INDEX, (x, w) -> x.ownerOf(3, w));
        Checks.same("1: a minor frame of 8 words", plannedNew().send(1), 64);
    }

    private static FrameCommutator plannedNew() {
        FrameCommutator x = new FrameCommutator();
        x.plan();
        return x;
    }

    /** "words: W, 6 to 16" */
    private static void words() {
        for (int minors : MINORS) {
            Bounds.range("2: words with M " + minors, FrameCommutator::new, 6, 16, ARGUMENT,
                    (x, words) -> x.setFrame(words, minors));
        }
        FrameCommutator x = Streams.loaded(Streams.lock());
        Checks.refused(x, "2: 5 words, in use", ARGUMENT, () -> x.setFrame(5, 2));
        Checks.refused(x, "2: 17 words, in use", ARGUMENT, () -> x.setFrame(17, 2));
    }

    /** "minors: M: 1, 2, 4 or 8" */
    private static void minors() {
        for (int words = 6; words <= 16; words++) {
            int used = words;
            Bounds.oneOf("2: minors with W " + words, FrameCommutator::new, MINORS, ARGUMENT,
                    (x, minors) -> x.setFrame(used, minors));
        }
        FrameCommutator x = Streams.loaded(Streams.lock());
        Checks.refused(x, "2: 3 minor frames, in use", ARGUMENT, () -> x.setFrame(6, 3));
        Checks.refused(x, "2: both are wrong", ARGUMENT, () -> x.setFrame(5, 0));
    }

    /** "column c is word 3 + c, and there are D = W - 3 columns" */
    private static void columns() {
        for (int words = 6; words <= 14; words++) {
            int columns = words - 3;
            FrameCommutator x = Streams.withRates(words, 1, Streams.times(columns, 1));
            Checks.same("4: as many as there are columns", x.plan(), columns);
            Checks.same("7: the first column", x.ownerOf(0, 3), 0);
            Checks.same("7: the last column", x.ownerOf(0, words - 1), columns - 1);
            x.addParameter(1);
            Checks.same("4: one more", x.plan(), -10 - columns);
        }
        FrameCommutator most = Streams.plannedAs(16, 8, Streams.times(12, 1));
        Checks.same("7: the twelfth of 13 columns", most.ownerOf(7, 14), 11);
        Checks.same("7: the thirteenth", most.ownerOf(7, 15), NONE);
    }

    private static void planWithoutParameters() {
        for (int minors : MINORS) {
            FrameCommutator x = Streams.withRates(6, minors);
            Checks.same("4: nothing to place", x.plan(), 0);
            Checks.same("7: nothing is placed", x.ownerOf(minors - 1, 5), NONE);
            Checks.same("24: it is undoable", x.undo(), 1);
        }
    }

    /** "the smallest p from 0 to D / r - 1"; the next one finds "no such p". */
    private static void everyStartOfAPositiveRate() {
        for (int words = 6; words <= 15; words++) {
            for (int rate = 1; rate <= 4; rate++) {
                if ((words - 3) % rate == 0) {
                    everyStart(words, rate, (words - 3) / rate);
                }
            }
        }
    }

    private static void everyStart(int words, int rate, int starts) {
        String what = "4: rate " + rate + " in " + words + " words";
        FrameCommutator x = Streams.withRates(words, 2, Streams.times(starts, rate));
        Checks.same(what, x.plan(), 2 * (words - 3));
        for (int p = 0; p < starts; p++) {
            for (int i = 0; i < rate; i++) {
                Checks.same(what + ", start " + p, x.slot(p, i, 1), 3 + p + i * starts);
            }
        }
        if (starts < 12) {
            x.addParameter(rate);
            Checks.same(what + ", no start", x.plan(), -10 - starts);
        }
    }

    /** "it cannot be placed if D is not divisible by r" */
    private static void columnsThatCannotBeDivided() {
        for (int words = 6; words <= 16; words++) {
            for (int rate = 1; rate <= 4; rate++) {
                int due = (words - 3) % rate == 0 ? 4 * rate : -10;
                Checks.same("4: rate " + rate + " in " + words + " words",
                        Streams.withRates(words, 4, rate).plan(), due);
            }
        }
    }

    /** "for the smallest c, and for this the smallest f from 0 to q - 1" */
    private static void everyPlaceOfANegativeRate() {
        for (int period : PERIODS) {
            int count = Math.min(12, 3 * period);
            FrameCommutator x = Streams.plannedAs(6, 8, Streams.times(count, -period));
            for (int i = 0; i < count; i++) {
                String what = "4: rate -" + period + ", parameter " + i;
                for (int k = 0; k < 8 / period; k++) {
                    Checks.same(what + ", minor frame", x.slot(i, k, 0), i % period + k * period);
                    Checks.same(what + ", word", x.slot(i, k, 1), 3 + i / period);
                }
            }
        }
    }

    /** "or there are no such c and f": one column is left, and the parameters before fill it. */
    private static void noPlaceForANegativeRate() {
        for (int period : PERIODS) {
            FrameCommutator x = Streams.withRates(6, 8, 1, 1);
            for (int i = 0; i < period; i++) {
                x.addParameter(-period);
            }
            Checks.same("4: the last column is full", x.plan(), 24);
            Checks.same("4: the last f", x.slot(1 + period, 0, 0), period - 1);
            Checks.same("4: the last c", x.slot(1 + period, 0, 1), 5);
            x.addParameter(-period);
            Checks.same("4: no c and f for -" + period, x.plan(), -12 - period);
        }
    }

    /** "it cannot be placed if M is less than q" */
    private static void fewerMinorFramesThanThePeriod() {
        for (int minors : MINORS) {
            for (int period : PERIODS) {
                int due = minors < period ? -10 : minors / period;
                Checks.same("4: rate -" + period + " with M " + minors,
                        Streams.withRates(6, minors, -period).plan(), due);
            }
        }
    }

    /** Parameters without a sample come last, in ascending order of their own numbers. */
    private static void noSamplesAreStillOrdered() {
        Checks.same("4: -8 and -4 with M 2", Streams.withRates(6, 2, -8, -4).plan(), -10);
        Checks.same("4: -4 and -8 with M 2", Streams.withRates(6, 2, -4, -8).plan(), -10);
        Checks.same("4: -2 comes first", Streams.withRates(6, 2, 1, 1, -4, 1, -2).plan(), -14);
        Checks.same("4: then -4", Streams.withRates(6, 2, 1, 1, -4, -8, -2).plan(), -12);
    }

    /** "parameters with equal numbers in ascending order of their own numbers" */
    private static void equalNumbersInAscendingOrder() {
        FrameCommutator x = Streams.withRates(15, 4, -4, 1, -4, 2, 1, 2);
        Checks.same("4: plan()", x.plan(), 26);
        int[] words = {7, 5, 7, 3, 6, 4};
        for (int i = 0; i < words.length; i++) {
            Checks.same("4: word of parameter " + i, x.slot(i, 0, 1), words[i]);
        }
        Checks.same("4: the first -4", x.slot(0, 0, 0), 0);
        Checks.same("4: the second -4", x.slot(2, 0, 0), 1);
    }

    /** "-10 minus the number of the first parameter, in the order of placing, that cannot be placed" */
    private static void firstThatCannotBePlaced() {
        Checks.same("4: the largest number of samples", Streams.withRates(6, 2, 2, 4).plan(), -11);
        Checks.same("4: the smallest number", Streams.withRates(6, 2, 4, 4).plan(), -10);
        Checks.same("4: one between fits", Streams.withRates(6, 2, -4, 3, 1).plan(), -12);
    }

    private static void lastThatCannotBePlaced() {
        FrameCommutator x = Streams.withRates(6, 8, 1, -2, -2, -8, -8, -8, -8, -8, -8, -8, -8);
        Checks.same("4: eleven fill the frame", x.plan(), 24);
        Checks.same("3: the twelfth", x.addParameter(-8), 11);
        Checks.same("4: it cannot be placed", x.plan(), -21);
    }

    /** "then nothing changes", and only a plan that succeeds is "Undoable" */
    private static void planThatFailsSavesNothing() {
        FrameCommutator x = Streams.loaded(Streams.lock());
        x.receive(90);
        x.addParameter(1);
        long before = x.digest();
        Checks.same("4: plan()", x.plan(), -13);
        Checks.same("4: nothing changes", x.digest(), before);
        Checks.refused(x, "4: no plan", STATE, () -> x.ownerOf(0, 0));
        Checks.same("24: addParameter is undone", x.undo(), 3);
        Checks.same("24: the receiver goes on", x.receive(6), 1);
    }

    /** "There is a plan from a successful planning until" then: no other call ends it. */
    private static void planLasts() {
        FrameCommutator x = Streams.withRates(6, 2, 1);
        Checks.refused(x, "4: before", STATE, () -> x.efficiency());
        x.plan();
        x.setValue(0, 1);
        x.send(4);
        x.disturb(1, 100);
        x.receive(191);
        x.setMode(1);
        x.setLimits(0, 1, 2, 3);
        x.setPersistence(0, 5);
        x.plan();
        x.undo();
        Checks.same("4: it lasts", x.efficiency(), 2.0 / 12.0);
    }

    /** "until the layout of the frame changes or a parameter is added" */
    private static void planEnds() {
        FrameCommutator x = Streams.planned(1);
        x.setFrame(7, 2);
        Checks.refused(x, "2: another W", STATE, () -> x.efficiency());
        FrameCommutator y = Streams.planned(1);
        y.setFrame(6, 4);
        Checks.refused(y, "2: another M", STATE, () -> y.efficiency());
        FrameCommutator z = Streams.planned(1);
        z.addParameter(1);
        Checks.refused(z, "3: another parameter", STATE, () -> z.efficiency());
        z.undo();
        Checks.same("24: it is back", z.efficiency(), 2.0 / 12.0);
    }

    /** "0 if M is less than q for a negative rate" */
    private static void samplesThatAreNone() {
        for (int minors : MINORS) {
            for (int period : PERIODS) {
                int due = minors < period ? 0 : minors / period;
                Checks.same("5: rate -" + period + " with M " + minors,
                        Streams.withRates(6, minors, -period).samplesPerMajor(0), due);
            }
        }
    }

    /** "IllegalStateException if there is no plan, or no such sample" */
    private static void everySample() {
        for (int minors : MINORS) {
            for (int rate : new int[] {1, 2, 3, 4, -2, -4, -8}) {
                if (minors >= -rate) {
                    int samples = rate > 0 ? rate * minors : minors / -rate;
                    Bounds.range("6: samples of rate " + rate + " with M " + minors,
                            () -> Streams.plannedAs(15, minors, rate), 0, samples - 1, STATE,
                            (x, sample) -> x.slot(0, sample, 0));
                }
            }
        }
        FrameCommutator x = Streams.plannedAs(15, 8, 4);
        Checks.same("6: the last minor frame", x.slot(0, 31, 0), 7);
        Checks.same("6: the last word", x.slot(0, 31, 1), 12);
    }

    /** "IllegalArgumentException if what is neither 0 nor 1" */
    private static void whatOfSlot() {
        Bounds.range("6: what", () -> Streams.planned(1), 0, 1, ARGUMENT, (x, what) -> x.slot(0, 0, what));
    }

    private static void slotWithoutAPlan() {
        FrameCommutator x = Streams.planned(1);
        x.addParameter(1);
        Checks.refused(x, "6: the plan of before", STATE, () -> x.slot(0, 0, 0));
        x.plan();
        Checks.same("6: a plan again", x.slot(1, 1, 1), 4);
    }

    /** "IndexOutOfBoundsException if there is no such minor frame or word" */
    private static void ownersOfTheSmallestAndTheLargest() {
        ownersOf(6, 1);
        ownersOf(16, 8);
        ownersOf(6, 8);
        ownersOf(16, 1);
    }

    private static void ownersOf(int words, int minors) {
        String what = "7: " + words + " words and " + minors + " minor frames";
        Bounds.range(what + ", minor", () -> Streams.plannedAs(words, minors, 1), 0, minors - 1, INDEX,
                (x, minor) -> x.ownerOf(minor, words - 1));
        Bounds.range(what + ", word", () -> Streams.plannedAs(words, minors, 1), 0, words - 1, INDEX,
                (x, word) -> x.ownerOf(minors - 1, word));
    }

    /** "NONE if the word is one of the words 0 to 2, or a free column" */
    private static void ownersOfTheFirstThreeWords() {
        FrameCommutator x = Streams.plannedAs(6, 8, 1, 1, -8);
        for (int minor = 0; minor < 8; minor++) {
            for (int word = 0; word < 3; word++) {
                Checks.same("7: word " + word, x.ownerOf(minor, word), NONE);
            }
            Checks.same("7: the first column", x.ownerOf(minor, 3), 0);
            Checks.same("7: free from minor frame 1 on", x.ownerOf(minor, 5), minor == 0 ? 2 : NONE);
        }
    }

    /** "the number of these words, converted to double, divided by W * M, converted to double" */
    private static void shares() {
        Checks.same("8: none", Streams.plannedAs(6, 1).efficiency(), 0.0);
        Checks.same("8: the smallest", Streams.plannedAs(16, 8, -8).efficiency(), 1.0 / 128.0);
        Checks.same("8: the largest", Streams.plannedAs(15, 8, 4, 4, 4).efficiency(), 96.0 / 120.0);
        Checks.same("8: no short fraction", Streams.plannedAs(7, 1, 1).efficiency(), 1.0 / 7.0);
    }
}
