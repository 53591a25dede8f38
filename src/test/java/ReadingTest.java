/** The document's sentences of RATES, STEPS and VALUES, each with its boundary cases; promises 6, 7, 10 to 12, 33 and 34. */
public final class ReadingTest {
    private static final int U = RoundRows.UNKNOWN;
    private static final int INT_MOST = 2147483647;
    private static final int INT_LEAST = -2147483648;
    /** Numbers that are none of any MEASURE. */
    private static final int[] NO_NUMBERS = {-1, 1_000_000, INT_MOST, INT_LEAST};

    public static void main(String[] args) {
        thousandths();
        timeAtFirst();
        spans();
        gaugesAndAmounts();
        counterWraps();
        aboveSilence();
        noNumbers();
        noNumbersOfCounters();
        numberToldLast();
        beyondBounds();
        counterStays();
        stepsOfTime();
        knownUnits();
        halfUnknown();
        laterAndTime();
        numbersOfMeasures();
        stepsByIt();
        readRefused();
        withoutMeasures();
        turnTells();
        turnRefused();
        measureTells();
        measureNone();
        rates();
        ratesOfNone();
        values();
        valuesOfNone();
        wouldTell();
        wouldNot();
        wouldDoNothing();
        leastFits();
        fitsOfCounters();
        noneFits();
        Due.finish();
    }

    private static void wouldRate(String of, RoundRows x, int later, int number, int want) {
        Due.due(of + ": rate of " + number + ", " + later + " later", x.would(later, number, 0, 0), want);
    }

    private static void rate(String of, RoundRows x, int later, int number, int want) {
        wouldRate(of, x, later, number, want);
        x.read(later, number, number, number, number);
        Due.due(of + ": rate by read(" + later + ", " + number + ")", x.rate(0), want);
    }

    // ---- Terms

    /** Terms: "All that is measured is told in thousandths, and is an int; / is cut towards 0." */
    private static void thousandths() {
        RoundRows x = Due.stored("step 60; measure g gauge silence 1000; measure a amount silence 1000; archive mean 12 by 30 share 0;");
        x.read(720, 999_999, 1, 0, 0);
        Due.due("greatest rate", x.rate(0), 999_999_000);
        Due.due("greatest value", x.value(0), 999_999_000);
        Due.due("greatest row", x.row(0, 0, 0), 999_999_000);
        Due.due("1 by 720", x.rate(1), 1);
        x.read(999, 0, 1, 0, 0);
        Due.due("1 by 999: above 0.001", x.rate(1), 1);
        x.read(1000, 0, 1, 0, 0);
        Due.due("1 by 1000: 0.001", x.rate(1), 1);
        x.read(1000, 0, 1999, 0, 0);
        Due.due("1999 by 1000", x.rate(1), 1999);
        x.read(3, 0, 2, 0, 0);
        Due.due("2 by 3", x.rate(1), 666);
    }

    /** Terms: "TIME is 0 at first." */
    private static void timeAtFirst() {
        RoundRows x = Due.stored("step 4; measure g gauge silence 9; archive mean 1 by 5 share 0;");
        Due.due("time", x.about(5), 0);
        Due.due("a step to come", x.left(0), 4);
        Due.due("one unit later", x.read(1, 1, 0, 0, 0), 0);
        Due.due("time", x.about(5), 1);
    }

    /**
     * Terms: "A READING at a later TIME tells a number of each MEASURE, in place of all TIMES behind the last READING (its SPAN):
     * its RATE, in thousandths for a unit of TIME."
     */
    private static void spans() {
        RoundRows x = Due.stored("step 4; measure a amount silence 9; measure g gauge silence 9; archive mean 1 by 5 share 0;");
        // the first one's SPAN begins at TIME 0
        x.read(3, 6, 6, 0, 0);
        Due.due("6 by 3", x.rate(0), 2000);
        x.read(1, 6, 2, 0, 0);
        Due.due("6 by 1", x.rate(0), 6000);
        Due.due("2 2 2 6", x.value(0), 3000);
        Due.due("6 6 6 2", x.value(1), 5000);
        x.read(5, 10, 1, 0, 0);
        Due.due("its whole SPAN", x.row(0, 0, 0), 2000);
        Due.due("a unit of it is behind the STEP", x.measure(0, 4), 1);
        // a SPAN goes back to the last READING that was done, not to one refused or taken back
        x.read(0, 5, 5, 0, 0);
        x.read(1, 5, 5, 0, 0);
        x.undo();
        x.read(2, 5, 5, 0, 0);
        Due.due("5 by 2", x.rate(0), 2500);
    }

    /** Terms: "gauge: 1000 times the number. amount: 1000 times the number by the SPAN." */
    private static void gaugesAndAmounts() {
        RoundRows x = Due.stored("step 4; measure g gauge silence 9;");
        wouldRate("gauge", x, 1, 7, 7000);
        wouldRate("gauge", x, 9, 7, 7000);
        wouldRate("gauge", x, 9, 0, 0);
        x = Due.stored("step 4; measure a amount silence 1000;");
        wouldRate("amount", x, 1, 7, 7000);
        wouldRate("amount", x, 2, 7, 3500);
        wouldRate("amount", x, 9, 7, 777);
        wouldRate("amount", x, 1000, 1, 1);
        wouldRate("amount", x, 9, 0, 0);
    }

    /**
     * Terms: "counter: by how much the number is more than the one told last; is that below 0, 2 to the power of the first width
     * more; is it below 0 still, 2 to the power of the second width more than it was at first; then 1000 times that by the SPAN."
     */
    private static void counterWraps() {
        RoundRows x = Due.stored("step 4; measure c counter 4 6 silence 9;");
        x.read(1, 40, 0, 0, 0);
        wouldRate("more", x, 1, 41, 1000);
        wouldRate("as much", x, 1, 40, 0);
        wouldRate("one less: 16 more", x, 1, 39, 15_000);
        wouldRate("16 less: 16 more", x, 1, 24, 0);
        wouldRate("17 less: 64 more", x, 1, 23, 47_000);
        wouldRate("40 less: 64 more", x, 1, 0, 24_000);
        wouldRate("23 more", x, 1, 63, 23_000);
        wouldRate("by the SPAN", x, 4, 39, 3750);
        wouldRate("by the SPAN", x, 9, 23, 5222);
        // one told last: another one is held against it, not against the first
        rate("down", x, 1, 30, 6000);
        rate("up", x, 1, 39, 9000);
        // the greatest widths
        x = Due.stored("step 4; measure c counter 19 20 silence 9;");
        x.read(1, 999_999, 0, 0, 0);
        wouldRate("one less: 2 to the 19th more", x, 1, 999_998, 524_287_000);
        wouldRate("2 to the 19th less", x, 1, 475_711, 0);
        wouldRate("one less than that: 2 to the 20th more", x, 1, 475_710, 524_287_000);
        wouldRate("0", x, 1, 0, 48_577_000);
        // the least ones
        x = Due.stored("step 4; measure c counter 4 5 silence 9;");
        x.read(1, 31, 0, 0, 0);
        wouldRate("16 less", x, 1, 15, 0);
        wouldRate("17 less", x, 1, 14, 15_000);
        wouldRate("31 less", x, 1, 0, 1000);
    }

    /** Terms: "It is UNKNOWN, if the SPAN is above SILENCE" */
    private static void aboveSilence() {
        for (String sort : new String[] {"gauge", "amount", "counter 8 16"}) {
            RoundRows x = Due.stored("step 4; measure m " + sort + " silence 5;");
            x.read(1, 0, 0, 0, 0);
            rate(sort, x, 4, 20, sort.equals("gauge") ? 20_000 : 5000);
            rate(sort, x, 5, 40, sort.equals("gauge") ? 40_000 : sort.equals("amount") ? 8000 : 4000);
            rate(sort, x, 6, 60, U);
            rate(sort, x, 5, 80, sort.equals("gauge") ? 80_000 : sort.equals("amount") ? 16_000 : 4000);
        }
        RoundRows x = Due.stored("step 4; measure g gauge silence 1;");
        rate("silence 1", x, 1, 3, 3000);
        rate("silence 1", x, 2, 3, U);
        x = Due.stored("step 4; measure g gauge silence 1000;");
        rate("silence 1000", x, 1000, 3, 3000);
        x = Due.stored("step 4; measure g gauge silence 999;");
        rate("silence 999", x, 1000, 3, U);
    }

    /** Terms: "if the number is below 0 or above 999,999" */
    private static void noNumbers() {
        for (String sort : new String[] {"gauge", "amount"}) {
            RoundRows x = Due.stored("step 4; measure m " + sort + " silence 1000;");
            for (int number : NO_NUMBERS) {
                rate(sort, x, 1, number, U);
                rate(sort, x, 1000, number, U);
            }
            rate(sort, x, 1, 0, 0);
            rate(sort, x, 1, 999_999, 999_999_000);
        }
    }

    /** Terms: "(a counter's: or 2 to the power of the second width or more)" */
    private static void noNumbersOfCounters() {
        for (int width = 5; width <= 20; width++) {
            RoundRows x = Due.stored("step 4; measure c counter 4 " + width + " silence 1000;");
            int most = Math.min(1 << width, 1_000_000) - 1;
            rate("first", x, 1, most, U);
            Due.due("a number of width " + width, x.measure(0, 5), most);
            rate("greatest of width " + width, x, 1, most, 0);
            rate("beyond width " + width, x, 1, most + 1, U);
            Due.due("no number of width " + width, x.measure(0, 5), -1);
            rate("first", x, 1, 0, U);
            rate("least", x, 1, 0, 0);
            for (int number : NO_NUMBERS) {
                rate("none", x, 1, number, U);
                Due.due("none", x.measure(0, 5), -1);
            }
        }
    }

    /** Terms: "of a counter, if the number told last was UNKNOWN so, or there is none" */
    private static void numberToldLast() {
        RoundRows x = Due.stored("step 4; measure c counter 4 6 silence 9;");
        rate("there is none", x, 1, 5, U);
        rate("there is one", x, 1, 7, 2000);
        for (int number : new int[] {-1, 64, 1_000_000}) {
            rate("UNKNOWN so", x, 1, number, U);
            rate("told last", x, 1, 20, U);
            rate("there is one", x, 1, 22, 2000);
        }
        rate("0 is one, too", x, 1, 0, 42_000);
        rate("0 told last", x, 1, 3, 3000);
        // of another sort nothing told last matters
        x = Due.stored("step 4; measure a amount silence 9;");
        rate("amount", x, 1, -1, U);
        rate("amount", x, 1, 5, 5000);
    }

    /** Terms: "if the RATE is below 1000 times LEAST or above 1000 times MOST" */
    private static void beyondBounds() {
        RoundRows x = Due.stored("step 4; measure g gauge silence 1000 least 2 most 5;");
        int[][] gauge = {{0, U}, {1, U}, {2, 2000}, {5, 5000}, {6, U}};
        for (int[] w : gauge) {
            rate("gauge", x, 1, w[0], w[1]);
        }
        // by a SPAN of 1000 the number is the RATE
        int[][] thousandths = {{1999, U}, {2000, 2000}, {2001, 2001}, {4999, 4999}, {5000, 5000}, {5001, U}};
        x = Due.stored("step 4; measure a amount silence 1000 least 2 most 5;");
        for (int[] w : thousandths) {
            rate("amount", x, 1000, w[0], w[1]);
        }
        x = Due.stored("step 4; measure c counter 14 16 silence 1000 least 2 most 5;");
        x.read(1, 7, 0, 0, 0);
        for (int[] w : thousandths) {
            wouldRate("counter", x, 1000, 7 + w[0], w[1]);
        }
        // the RATE is cut first: 5000.7 is not above 5000
        x = Due.stored("step 4; measure a amount silence 1000 most 5;");
        rate("cut", x, 999, 4995, 5000);
        rate("cut", x, 999, 4996, U);
        // what a counter's widths let be, its MOST does not: 2 to the 20th less 48,577 and less 48,576
        x = Due.stored("step 4; measure c counter 4 20 silence 1000;");
        x.read(1, 48_577, 0, 0, 0);
        wouldRate("just MOST", x, 1, 0, 999_999_000);
        wouldRate("above MOST", x, 1, 1, U);
        wouldRate("by a SPAN of 2", x, 2, 1, 500_000_000);
        // LEAST and MOST of 0
        x = Due.stored("step 4; measure a amount silence 1000 most 0;");
        rate("0", x, 1000, 0, 0);
        rate("1", x, 1000, 1, U);
    }

    /** Terms: "(A counter's number that is one, stays the number told last, whatever its RATE.)" */
    private static void counterStays() {
        RoundRows x = Due.stored("step 5; measure c counter 8 16 silence 6 least 2 most 9;");
        rate("first", x, 1, 100, U);
        Due.due("first", x.measure(0, 5), 100);
        rate("above SILENCE", x, 7, 130, U);
        Due.due("above SILENCE", x.measure(0, 5), 130);
        rate("above MOST", x, 1, 140, U);
        Due.due("above MOST", x.measure(0, 5), 140);
        rate("below LEAST", x, 1, 141, U);
        Due.due("below LEAST", x.measure(0, 5), 141);
        rate("held against it", x, 1, 143, 2000);
        rate("0", x, 1, 0, U);
        Due.due("0", x.measure(0, 5), 0);
        rate("held against 0", x, 1, 9, 9000);
        rate("none", x, 7, -1, U);
        Due.due("none", x.measure(0, 5), -1);
    }

    /** Terms: "A STEP goes from a TIME that is a multiple of step to the next one." */
    private static void stepsOfTime() {
        for (int step : new int[] {1, 2, 7, 60}) {
            RoundRows x = Due.stored("step " + step + "; measure g gauge silence 1000;");
            if (step > 1) {
                Due.due("a unit less", x.read(step - 1, 1, 0, 0, 0), 0);
                Due.due("units of it", x.measure(0, 4), step - 1);
            }
            Due.due("the last unit", x.read(1, 1, 0, 0, 0), 1);
            Due.due("no unit of the next", x.measure(0, 4), 0);
            Due.due("the next one", x.read(step, 2, 0, 0, 0), 1);
            Due.due("its units alone", x.value(0), 2000);
            Due.due("one more than two", x.read(2 * step + 1, 3, 0, 0, 0), step == 1 ? 3 : 2);
            Due.due("over", x.about(6), x.about(5) / step);
        }
    }

    /**
     * Terms: "When it is over, each MEASURE has a VALUE of it: the RATES of units of TIME in it that are known together, by how many
     * these are"
     */
    private static void knownUnits() {
        RoundRows x = Due.stored("step 5; measure g gauge silence 9; measure h gauge silence 9;");
        x.read(2, 3, 1, 0, 0);
        x.read(2, -1, 2, 0, 0);
        Due.due("not over", x.value(0), U);
        x.read(1, 9, -1, 0, 0);
        Due.due("3 3 ? ? 9", x.value(0), 5000);
        Due.due("1 1 2 2 ?", x.value(1), 1500);
        // zeros are known
        x.read(4, 0, 5, 0, 0);
        Due.due("stays till the next is over", x.value(0), 5000);
        x.read(1, 7, 5, 0, 0);
        Due.due("0 0 0 0 7", x.value(0), 1400);
        Due.due("5 5 5 5 5", x.value(1), 5000);
        x.read(3, 1, 0, 0, 0);
        x.read(2, 2, 0, 0, 0);
        Due.due("1 1 1 2 2", x.value(0), 1400);
    }

    /** Terms: "UNKNOWN, if half of its units at least are not known (twice as many as step, or more)." */
    private static void halfUnknown() {
        for (int step = 1; step <= 60; step++) {
            int half = (step + 1) / 2;
            for (int unknown = half - 1; unknown <= half; unknown++) {
                RoundRows x = Due.stored("step " + step + "; measure g gauge silence 60; archive mean 1 by 1 share 9;");
                x.read(unknown, -1, 0, 0, 0);
                x.read(step - unknown, 4, 0, 0, 0);
                Due.due("step " + step + " is over", x.about(6), 1);
                Due.due("step " + step + ", unknown " + unknown, x.value(0), unknown < half ? 4000 : U);
                Due.due("row of step " + step + ", unknown " + unknown, x.row(0, 0, 0), unknown < half ? 4000 : U);
                Due.due("units anew", x.measure(0, 4), 0);
            }
        }
    }

    // ---- Promise 6

    /** Promise 6: "A READING so much later (1 .. 1,000; TIME 100,000 at most)" */
    private static void laterAndTime() {
        RoundRows x = Due.stored("step 1; measure g gauge silence 1000;");
        for (int later : new int[] {0, -1, 1001, INT_MOST, INT_LEAST}) {
            Due.due("read(" + later + ")", x.read(later, 1, 1, 1, 1), -1);
        }
        Due.due("read(1)", x.read(1, 1, 1, 1, 1), 1);
        for (int i = 0; i < 99; i++) {
            Due.due("read(1000)", x.read(1000, 1, 1, 1, 1), 1000);
        }
        Due.due("to 100,001", x.read(1000, 1, 1, 1, 1), -1);
        Due.due("time", x.about(5), 99_001);
        Due.due("to 100,000", x.read(999, 1, 1, 1, 1), 999);
        Due.due("time", x.about(5), 100_000);
        Due.due("to 100,001", x.read(1, 1, 1, 1, 1), -1);
        x.undo();
        Due.due("to 99,999", x.read(998, 1, 1, 1, 1), 998);
        Due.due("to 100,001", x.read(2, 1, 1, 1, 1), -1);
        Due.due("to 100,000", x.read(1, 1, 1, 1, 1), 1);
    }

    /** Promise 6: "numbers of MEASURES 0 .. 3 (those there are)" */
    private static void numbersOfMeasures() {
        StringBuilder text = new StringBuilder("step 1;");
        for (int many = 0; many <= 4; many++) {
            if (many > 0) {
                text.append("measure ").append((char) ('a' + many)).append(" gauge silence 9;");
            }
            RoundRows x = Due.stored(text.toString());
            Due.due("measures", x.about(1), many);
            x.read(1, 5, 6, 7, 8);
            for (int m = 0; m < 4; m++) {
                Due.due("rate " + m + " of " + many, x.rate(m), m < many ? 5000 + 1000 * m : U);
            }
            // those of MEASURES that are not there may be any
            Due.due("any", x.read(1, 5, many > 1 ? 6 : INT_LEAST, many > 2 ? 7 : INT_MOST, many > 3 ? 8 : -1), 1);
        }
    }

    /** Promise 6: "how many STEPS are over by it" */
    private static void stepsByIt() {
        RoundRows x = Due.stored("step 10; measure g gauge silence 1000;");
        int[][] want = {{9, 0}, {1, 1}, {9, 0}, {2, 1}, {8, 0}, {1, 1}, {20, 2}, {19, 1}, {21, 3}, {1000, 100}};
        for (int[] w : want) {
            Due.due("read(" + w[0] + ") at " + x.about(5), x.read(w[0], 1, 0, 0, 0), w[1]);
        }
        Due.due("a number that is none counts, too", x.read(10, -1, 0, 0, 0), 1);
    }

    /** Promise 6: "NONE, doing nothing, if it can't be." */
    private static void readRefused() {
        RoundRows x = Due.stored("step 2; measure c counter 4 8 silence 9; archive mean 1 by 9 share 0; forecast c season 2 by 8 8 8 band 1;");
        Due.reads(x, 1, 5, 6, 8, 9, 9, 4);
        x.undo();
        long state = Due.stateOf(x);
        for (int later : new int[] {0, -1, 1001, INT_MOST, INT_LEAST}) {
            Due.due("read(" + later + ")", x.read(later, 7, 7, 7, 7), -1);
            Due.due("nothing is done", Due.stateOf(x) == state, true);
        }
        Due.due("what was taken back can be done again", x.redo(), true);
        Due.due("one that can be", x.read(1, 7, 7, 7, 7), 0);
        Due.due("something is done", Due.stateOf(x) == state, false);
    }

    /** Promise 6: "(Without MEASURES TIME goes on, too.)" */
    private static void withoutMeasures() {
        RoundRows x = Due.stored("step 4; archive mean 2 by 3 share 0;");
        Due.due("no step", x.read(3, 1, 2, 3, 4), 0);
        Due.due("steps", x.read(15, -1, -1, -1, -1), 4);
        Due.due("time", x.about(5), 18);
        Due.due("readings", x.about(7), 2);
        Due.due("rows", x.archive(0, 4), 2);
        Due.due("acts", x.about(9), 2);
        Due.due("0 later", x.read(0, 1, 1, 1, 1), -1);
        Due.due("undo", x.undo(), true);
        Due.due("time", x.about(5), 3);
    }

    // ---- Promise 7

    /** Promise 7: "Of a MEASURE what 0: SILENCE, 1: LEAST, 2: MOST is v from now on: what it was" */
    private static void turnTells() {
        RoundRows x = Due.stored("step 4; measure h gauge silence 9; measure g gauge silence 4 least 2 most 9;");
        Due.due("silence was", x.turn(1, 0, 5), 4);
        Due.due("least was", x.turn(1, 1, 3), 2);
        Due.due("most was", x.turn(1, 2, 8), 9);
        Due.due("silence was", x.turn(1, 0, 5), 5);
        Due.due("least was", x.turn(1, 1, 0), 3);
        Due.due("least was 0", x.turn(1, 1, 3), 0);
        Due.due("most was", x.turn(1, 2, 8), 8);
        int[] want = {9, 0, 999_999};
        for (int what = 0; what < 3; what++) {
            Due.due("the other MEASURE " + what, x.measure(0, what), want[what]);
        }
        // what is from now on: a RATE that was told stays
        x = Due.stored("step 4; measure g gauge silence 4;");
        x.read(4, 6, 0, 0, 0);
        x.turn(0, 0, 3);
        x.turn(0, 1, 7);
        Due.due("rate stays", x.rate(0), 6000);
        Due.due("value stays", x.value(0), 6000);
        rate("below the new LEAST", x, 1, 6, U);
        rate("the new LEAST", x, 1, 7, 7000);
        rate("above the new SILENCE", x, 4, 7, U);
        rate("the new SILENCE", x, 3, 7, 7000);
        x.turn(0, 2, 8);
        rate("above the new MOST", x, 1, 9, U);
        rate("the new MOST", x, 1, 8, 8000);
    }

    /** Promise 7: "NONE, doing nothing, if there is none such, or v can't be (as in a text; LEAST no more than MOST)." */
    private static void turnRefused() {
        RoundRows x = Due.stored("step 4; measure g gauge silence 4 least 2 most 9; measure h gauge silence 5;");
        x.read(1, 3, 3, 0, 0);
        x.undo();
        long state = Due.stateOf(x);
        int[][] bad = {{2, 0, 5}, {-1, 0, 5}, {4, 0, 5}, {INT_MOST, 0, 5}, {INT_LEAST, 0, 5}, {0, 3, 5}, {0, -1, 5}, {0, INT_MOST, 5},
            {0, 0, 0}, {0, 0, -1}, {0, 0, 1001}, {0, 0, INT_MOST}, {0, 1, -1}, {0, 1, 10}, {0, 1, INT_LEAST}, {0, 2, 1}, {0, 2, -1},
            {0, 2, 1_000_000}, {0, 2, INT_MOST}, {1, 1, 1_000_000}, {1, 2, 1_000_000}, {1, 2, -1}};
        for (int[] t : bad) {
            Due.due("turn(" + t[0] + ", " + t[1] + ", " + t[2] + ")", x.turn(t[0], t[1], t[2]), -1);
        }
        Due.due("nothing is done", Due.stateOf(x) == state, true);
        Due.due("what was taken back can be done again", x.redo(), true);
        int[][] good = {{0, 0, 1, 4}, {0, 0, 1000, 1}, {0, 1, 0, 2}, {0, 1, 9, 0}, {0, 2, 9, 9}, {0, 2, 999_999, 9}, {0, 1, 999_999, 9},
            {0, 2, 999_999, 999_999}, {1, 1, 0, 0}, {1, 2, 0, 999_999}, {1, 2, 999_999, 0}};
        for (int[] t : good) {
            Due.due("turn(" + t[0] + ", " + t[1] + ", " + t[2] + ")", x.turn(t[0], t[1], t[2]), t[3]);
            Due.due("is it now", x.measure(t[0], t[1]), t[2]);
        }
    }

    // ---- Promises 10 to 12

    /**
     * Promise 10: "Of a MEASURE what 0: SILENCE, 1: LEAST, 2: MOST, 3: its sort (0 gauge, 1 amount, 2 counter), 4: known units of the
     * STEP that is not over, 5: the counter's number told last (NONE: UNKNOWN, or it is none)."
     */
    private static void measureTells() {
        RoundRows x = Due.stored("step 4; measure g gauge silence 4 least 2 most 9; measure a amount silence 5; measure c counter 5 6 silence 6;");
        measures("new", x, new int[][] {{4, 2, 9, 0, 0, -1}, {5, 0, 999_999, 1, 0, -1}, {6, 0, 999_999, 2, 0, -1}});
        x.read(1, 4, 4, 63, 0);
        measures("one unit", x, new int[][] {{4, 2, 9, 0, 1, -1}, {5, 0, 999_999, 1, 1, -1}, {6, 0, 999_999, 2, 0, 63}});
        x.read(2, 1, 4, 0, 0);
        measures("three units", x, new int[][] {{4, 2, 9, 0, 1, -1}, {5, 0, 999_999, 1, 3, -1}, {6, 0, 999_999, 2, 2, 0}});
        x.read(1, 4, 4, 64, 0);
        measures("a step over", x, new int[][] {{4, 2, 9, 0, 0, -1}, {5, 0, 999_999, 1, 0, -1}, {6, 0, 999_999, 2, 0, -1}});
        x.read(5, 4, 4, 9, 0);
        measures("above a silence", x, new int[][] {{4, 2, 9, 0, 0, -1}, {5, 0, 999_999, 1, 1, -1}, {6, 0, 999_999, 2, 0, 9}});
    }

    private static void measures(String of, RoundRows x, int[][] want) {
        for (int m = 0; m < want.length; m++) {
            for (int what = 0; what < 6; what++) {
                Due.due(of + ": measure(" + m + ", " + what + ")", x.measure(m, what), want[m][what]);
            }
        }
    }

    /** Promise 10: "NONE if there is none such, or for another what." */
    private static void measureNone() {
        RoundRows x = Due.stored("step 4; measure g gauge silence 4; measure c counter 5 6 silence 6;");
        x.read(1, 7, 7, 7, 7);
        Due.due("the last one", x.measure(1, 5), 7);
        for (int m : new int[] {-1, 2, 3, 4, INT_MOST, INT_LEAST}) {
            for (int what = -1; what < 7; what++) {
                Due.due("measure(" + m + ", " + what + ")", x.measure(m, what), -1);
            }
        }
        for (int what : new int[] {-1, 6, INT_MOST, INT_LEAST}) {
            Due.due("measure(1, " + what + ")", x.measure(1, what), -1);
        }
    }

    /** Promise 11: "The RATE by the latest READING (UNKNOWN ahead of any)" */
    private static void rates() {
        RoundRows x = Due.stored("step 4; measure g gauge silence 4; measure h gauge silence 4;");
        Due.due("ahead of any", x.rate(0), U);
        x.turn(0, 0, 5);
        Due.due("ahead of any READING", x.rate(0), U);
        x.read(1, 0, 8, 0, 0);
        Due.due("0", x.rate(0), 0);
        Due.due("of another one", x.rate(1), 8000);
        x.read(1, 3, -1, 0, 0);
        Due.due("the latest", x.rate(0), 3000);
        Due.due("UNKNOWN by it", x.rate(1), U);
        x.undo();
        Due.due("the latest that was not taken back", x.rate(1), 8000);
        x.undo();
        Due.due("ahead of any", x.rate(1), U);
    }

    /** Promise 11: "UNKNOWN, too, if there is no such MEASURE." */
    private static void ratesOfNone() {
        RoundRows x = Due.stored("step 1; measure g gauge silence 4; measure h gauge silence 4;");
        x.read(1, 5, 5, 5, 5);
        Due.due("the last one", x.rate(1), 5000);
        for (int m : new int[] {-1, 2, 3, 4, INT_MOST, INT_LEAST}) {
            Due.due("rate(" + m + ")", x.rate(m), U);
        }
    }

    /** Promise 12: "The VALUE of the latest STEP that is over (UNKNOWN ahead of any)" */
    private static void values() {
        RoundRows x = Due.stored("step 4; measure g gauge silence 9;");
        Due.due("ahead of any", x.value(0), U);
        x.read(3, 5, 0, 0, 0);
        Due.due("none is over", x.value(0), U);
        x.read(1, 1, 0, 0, 0);
        Due.due("one is over", x.value(0), 4000);
        x.read(7, 6, 0, 0, 0);
        Due.due("another one", x.value(0), 6000);
        x.read(1, 2, 0, 0, 0);
        Due.due("two by two READINGS", x.value(0), 5000);
        x.read(9, 7, 0, 0, 0);
        Due.due("the latest of two by one READING", x.value(0), 7000);
        x.read(3, -1, 0, 0, 0);
        Due.due("an UNKNOWN one", x.value(0), U);
    }

    /** Promise 12: "UNKNOWN, too, if there is no such MEASURE." */
    private static void valuesOfNone() {
        RoundRows x = Due.stored("step 1; measure g gauge silence 4; measure h gauge silence 4;");
        x.read(1, 5, 5, 5, 5);
        Due.due("the last one", x.value(1), 5000);
        for (int m : new int[] {-1, 2, 3, 4, INT_MOST, INT_LEAST}) {
            Due.due("value(" + m + ")", x.value(m), U);
        }
    }

    // ---- Promises 33 and 34

    /**
     * Promise 33: "Were there a READING so much later, with a number of a MEASURE: what 0: the RATE of a MEASURE, 1: its VALUE of the
     * latest STEP that is over then, 2: how many STEPS would be over by it"
     */
    private static void wouldTell() {
        RoundRows x = Due.stored("step 10; measure g gauge silence 30; measure c counter 4 8 silence 30;");
        would(x, 9, 5, 0, 5000, U, 0);
        would(x, 10, 5, 0, 5000, 5000, 1);
        x.read(4, 2, 9, 0, 0);
        would(x, 5, 7, 0, 7000, U, 0);
        would(x, 6, 7, 0, 7000, 5000, 1);
        would(x, 15, 7, 0, 7000, 5000, 1);
        would(x, 16, 7, 0, 7000, 7000, 2);
        would(x, 6, -1, 0, U, U, 1);
        would(x, 6, 8, 1, 2500, 2500, 1);
        would(x, 16, 256, 1, U, U, 2);
        would(x, 30, 3, 0, 3000, 3000, 3);
        would(x, 31, 3, 0, U, U, 3);
        x.read(2, 2, 9, 0, 0);
        // six units of 2 are known, the rest would not be: more than half
        would(x, 4, -1, 0, U, 2000, 1);
        would(x, 14, -1, 0, U, U, 2);
        x.read(4, 7, 9, 0, 0);
        // none over by it: the latest one stays, whatever the RATE
        would(x, 9, 1, 0, 1000, 4000, 0);
        would(x, 9, -1, 0, U, 4000, 0);
        // five units and five: the fifth is not enough
        x.read(5, -1, 9, 0, 0);
        would(x, 5, 6, 0, 6000, U, 1);
        x.undo();
        x.read(4, -1, 9, 0, 0);
        would(x, 6, 6, 0, 6000, 6000, 1);
    }

    private static void would(RoundRows x, int later, int number, int measure, int... want) {
        for (int what = 0; what < 3; what++) {
            Due.due("at " + x.about(5) + ": would(" + later + ", " + number + ", " + measure + ", " + what + ")",
                    x.would(later, number, measure, what), want[what]);
        }
    }

    /** Promise 33: "UNKNOWN if it can't be, or for another what." */
    private static void wouldNot() {
        RoundRows x = Due.stored("step 1; measure g gauge silence 1000;");
        would(x, 1, 3, 0, 3000, 3000, 1);
        would(x, 1000, 3, 0, 3000, 3000, 1000);
        for (int later : new int[] {0, -1, 1001, INT_MOST, INT_LEAST}) {
            would(x, later, 3, 0, U, U, U);
        }
        for (int m : new int[] {-1, 1, 4, INT_MOST, INT_LEAST}) {
            would(x, 1, 3, m, U, U, U);
        }
        for (int what : new int[] {-1, 3, INT_MOST, INT_LEAST}) {
            Due.due("would's what " + what, x.would(1, 3, 0, what), U);
        }
        for (int i = 0; i < 99; i++) {
            x.read(1000, 1, 0, 0, 0);
        }
        x.read(1, 1, 0, 0, 0);
        would(x, 999, 3, 0, 3000, 3000, 999);
        would(x, 1000, 3, 0, U, U, U);
    }

    /** Promise 33: "(Nothing is done.)" */
    private static void wouldDoNothing() {
        RoundRows x = Due.stored("step 5; measure c counter 4 8 silence 20; forecast c season 2 by 8 8 8 band 1; archive mean 1 by 5 share 0;");
        Due.reads(x, 4, 3, 8, 9);
        x.undo();
        long state = Due.stateOf(x);
        for (int what = 0; what < 3; what++) {
            x.would(15, 100, 0, what);
        }
        Due.due("state", Due.stateOf(x) == state, true);
        Due.due("what was taken back can be done again", x.redo(), true);
    }

    /** Promise 34: "The least number of a MEASURE (0 .. 999,999) by which its RATE by a READING so much later would be known" */
    private static void leastFits() {
        RoundRows x = Due.stored("step 5; measure g gauge silence 20; measure a amount silence 1000;");
        Due.due("gauge, LEAST 0", x.fits(1, 0), 0);
        Due.due("amount, LEAST 0", x.fits(1000, 1), 0);
        x.turn(0, 1, 7);
        x.turn(1, 1, 7);
        Due.due("gauge, LEAST 7", x.fits(20, 0), 7);
        Due.due("amount, LEAST 7", x.fits(20, 1), 140);
        x.turn(1, 1, 1);
        Due.due("amount, LEAST 1 by 1000", x.fits(1000, 1), 1000);
        Due.due("amount, LEAST 1 by 999", x.fits(999, 1), 999);
        x.turn(0, 1, 999_999);
        x.turn(1, 1, 999_999);
        Due.due("gauge, the greatest", x.fits(1, 0), 999_999);
        Due.due("amount, the greatest", x.fits(1, 1), 999_999);
        Due.due("amount, beyond", x.fits(2, 1), -1);
        x.turn(1, 1, 333_333);
        Due.due("amount, the greatest by 3", x.fits(3, 1), 999_999);
        x.turn(1, 1, 333_334);
        Due.due("amount, beyond by 3", x.fits(3, 1), -1);
    }

    /** Promise 34: "by which its RATE by a READING so much later would be known" */
    private static void fitsOfCounters() {
        RoundRows x = Due.stored("step 5; measure c counter 4 6 silence 1000;");
        x.read(1, 40, 0, 0, 0);
        // by a SPAN of 1: 0 to 23 are 24 to 47, 24 to 39 are 0 to 15, 40 to 63 are 0 to 23
        int[][] want = {
            // LEAST, MOST, least number
            {0, 999_999, 0}, {24, 24, 0}, {25, 999_999, 1}, {47, 999_999, 23}, {48, 999_999, -1}, {0, 23, 24}, {1, 23, 25}, {15, 15, 39},
            {15, 23, 39}, {16, 23, 56}, {23, 23, 63}, {0, 0, 24},
        };
        for (int[] w : want) {
            x.turn(0, 1, 0);
            x.turn(0, 2, w[1]);
            x.turn(0, 1, w[0]);
            Due.due("LEAST " + w[0] + ", MOST " + w[1], x.fits(1, 0), w[2]);
        }
        // by a SPAN of 2: twice as many
        int[][] two = {{5, 5, 34}, {6, 7, 36}, {8, 11, 56}, {12, 23, 0}, {0, 7, 24}, {13, 13, 2}};
        for (int[] w : two) {
            x.turn(0, 1, 0);
            x.turn(0, 2, w[1]);
            x.turn(0, 1, w[0]);
            Due.due("LEAST " + w[0] + ", MOST " + w[1] + ", SPAN 2", x.fits(2, 0), w[2]);
        }
        // the greatest number told last: no more is a number
        x = Due.stored("step 5; measure c counter 19 20 silence 1000;");
        x.read(1, 999_999, 0, 0, 0);
        x.turn(0, 2, 0);
        Due.due("0 more: by the first width", x.fits(1, 0), 475_711);
        x.turn(0, 2, 999_999);
        x.turn(0, 1, 524_287);
        Due.due("2 to the 19th less 1", x.fits(1, 0), 475_710);
        x.turn(0, 1, 524_288);
        Due.due("more than by any", x.fits(1, 0), -1);
        x = Due.stored("step 5; measure c counter 4 20 silence 1000;");
        x.read(1, 0, 0, 0, 0);
        x.turn(0, 1, 999_999);
        Due.due("999,999", x.fits(1, 0), 999_999);
        Due.due("beyond 999,999", x.fits(2, 0), -1);
    }

    /** Promise 34: "NONE if by none, or it can't be." */
    private static void noneFits() {
        RoundRows x = Due.stored("step 5; measure g gauge silence 20; measure c counter 4 8 silence 20;");
        Due.due("SILENCE", x.fits(20, 0), 0);
        Due.due("above SILENCE", x.fits(21, 0), -1);
        Due.due("no number told last", x.fits(1, 1), -1);
        x.read(1, 0, 5, 0, 0);
        Due.due("a number told last", x.fits(1, 1), 0);
        Due.due("above SILENCE", x.fits(21, 1), -1);
        x.read(1, 0, 256, 0, 0);
        Due.due("one that is none", x.fits(1, 1), -1);
        x.turn(1, 1, 5);
        Due.due("one that is none, LEAST above 0", x.fits(1, 1), -1);
        for (int m : new int[] {-1, 2, 4, INT_MOST, INT_LEAST}) {
            Due.due("fits of " + m, x.fits(1, m), -1);
        }
        x = Due.stored("step 5; measure g gauge silence 1000;");
        for (int later : new int[] {0, -1, 1001, INT_MOST, INT_LEAST}) {
            Due.due("fits " + later + " later", x.fits(later, 0), -1);
        }
        Due.due("fits 1000 later", x.fits(1000, 0), 0);
        for (int i = 0; i < 99; i++) {
            x.read(1000, 1, 0, 0, 0);
        }
        x.read(1, 1, 0, 0, 0);
        Due.due("fits at 100,000", x.fits(999, 0), 0);
        Due.due("fits beyond", x.fits(1000, 0), -1);
    }
}
