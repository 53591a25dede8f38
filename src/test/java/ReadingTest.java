/** Promises 6, 7, 10 to 12, 33 and 34: readings, bounds turned by hand, rates, values, what would come of a reading. */
public final class ReadingTest {
    private static final int U = RoundRows.UNKNOWN;

    public static void main(String[] args) {
        refused();
        steps();
        gauges();
        amounts();
        counters();
        counterStays();
        values();
        turns();
        measures();
        would();
        wouldDoesNothing();
        fitsOfGaugesAndAmounts();
        fitsOfCounters();
        Due.finish();
    }

    private static void rate(String of, RoundRows x, int later, int number, int want) {
        x.read(later, number, number, number, number);
        Due.due(of + " read(" + later + ", " + number + ") rate", x.rate(0), want);
    }

    private static void refused() {
        RoundRows x = Due.stored("step 7; measure g gauge silence 1000;");
        int[] bad = {0, -1, 1001, 2147483647, -2147483648};
        for (int later : bad) {
            Due.due("read(" + later + ")", x.read(later, 1, 1, 1, 1), -1);
        }
        Due.due("no time", x.about(5), 0);
        Due.due("no readings", x.about(7), 0);
        Due.due("no acts", x.about(9), 0);
        Due.due("no rate", x.rate(0), U);
        for (int i = 1; i <= 99; i++) {
            x.read(1000, 1, 1, 1, 1);
        }
        Due.due("time", x.about(5), 99_000);
        Due.due("read(999)", x.read(999, 2, 1, 1, 1), 99_999 / 7 - 99_000 / 7);
        Due.due("read(2)", x.read(2, 3, 1, 1, 1), -1);
        Due.due("rate stays", x.rate(0), 2000);
        Due.due("read(1)", x.read(1, 3, 1, 1, 1), 0);
        Due.due("time", x.about(5), 100_000);
        Due.due("read(1) at the end", x.read(1, 3, 1, 1, 1), -1);
        Due.due("would at the end", x.would(1, 3, 0, 0), U);
        Due.due("fits at the end", x.fits(1, 0), -1);
        Due.due("readings", x.about(7), 101);
    }

    private static void steps() {
        RoundRows x = Due.stored("step 10; measure g gauge silence 100;");
        int[][] reads = {{9, 0, 0}, {1, 1, 1}, {10, 1, 2}, {5, 0, 2}, {4, 0, 2}, {2, 1, 3}, {29, 3, 6}, {1000, 100, 106}};
        int time = 0;
        for (int i = 0; i < reads.length; i++) {
            time += reads[i][0];
            Due.due("steps by it " + i, x.read(reads[i][0], 1, 0, 0, 0), reads[i][1]);
            Due.due("steps " + i, x.about(6), reads[i][2]);
            Due.due("time " + i, x.about(5), time);
            Due.due("readings " + i, x.about(7), i + 1);
        }
        // without measures
        x = Due.stored("step 3;");
        Due.due("steps without measures", x.read(8, 1, 2, 3, 4), 2);
        Due.due("time without measures", x.about(5), 8);
        Due.due("acts without measures", x.about(9), 1);
    }

    private static void gauges() {
        RoundRows x = Due.stored("step 5; measure g gauge silence 6;");
        Due.due("ahead of any", x.rate(0), U);
        Due.due("none such", x.rate(1), U);
        Due.due("none such", x.rate(-1), U);
        rate("gauge", x, 3, 5, 5000);
        rate("gauge", x, 6, 7, 7000);
        rate("gauge", x, 7, 7, U);
        rate("gauge", x, 1, 0, 0);
        rate("gauge", x, 1, 999_999, 999_999_000);
        rate("gauge", x, 1, 1_000_000, U);
        rate("gauge", x, 1, -1, U);
        rate("gauge", x, 1, -2147483648, U);
        rate("gauge", x, 1, 2147483647, U);
        x = Due.stored("step 5; measure g gauge silence 6 least 3 most 8;");
        rate("bounds", x, 2, 2, U);
        rate("bounds", x, 2, 3, 3000);
        rate("bounds", x, 2, 8, 8000);
        rate("bounds", x, 2, 9, U);
    }

    private static void amounts() {
        RoundRows x = Due.stored("step 5; measure a amount silence 6 least 2 most 50;");
        rate("amount", x, 3, 10, 3333);
        rate("amount", x, 3, 5, U);
        rate("amount", x, 3, 6, 2000);
        rate("amount", x, 3, 150, 50000);
        rate("amount", x, 3, 151, U);
        rate("amount", x, 6, 299, 49833);
        rate("amount", x, 7, 20, U);
        rate("amount", x, 1, -1, U);
        x = Due.stored("step 5; measure a amount silence 1000;");
        rate("amount", x, 1, 999_999, 999_999_000);
        rate("amount", x, 1, 1_000_000, U);
        rate("amount", x, 1000, 999_999, 999_999);
        rate("amount", x, 1000, 1_000_000, U);
        rate("amount", x, 7, 1, 142);
        // the rate is cut before it is held against the bounds
        x = Due.stored("step 5; measure a amount silence 1000 most 1;");
        rate("cut", x, 1000, 1000, 1000);
        rate("cut", x, 1000, 1001, U);
        x.turn(0, 0, 1000);
        rate("cut", x, 999, 999, 1000);
    }

    private static void counters() {
        RoundRows x = Due.stored("step 5; measure c counter 4 6 silence 6;");
        Due.due("none told", x.measure(0, 5), -1);
        rate("first", x, 2, 10, U);
        Due.due("told", x.measure(0, 5), 10);
        rate("up", x, 2, 13, 1500);
        rate("same", x, 2, 13, 0);
        rate("by the first width", x, 3, 3, 2000);
        rate("up", x, 1, 40, 37000);
        rate("by the first width, just", x, 1, 24, 0);
        rate("up", x, 1, 40, 16000);
        rate("by the second width, just", x, 1, 23, 47000);
        rate("up", x, 1, 63, 40000);
        rate("by the second width", x, 1, 0, 1000);
        rate("too great", x, 1, 64, U);
        Due.due("unknown so", x.measure(0, 5), -1);
        rate("none told last", x, 1, 5, U);
        rate("again", x, 1, 6, 1000);
        rate("below 0", x, 1, -1, U);
        Due.due("unknown so", x.measure(0, 5), -1);
        rate("none told last", x, 1, 8, U);
        rate("by the first width", x, 1, 7, 15000);
        x = Due.stored("step 5; measure c counter 19 20 silence 6 least 1 most 999999;");
        rate("first", x, 1, 999_999, U);
        Due.due("greatest number", x.measure(0, 5), 999_999);
        rate("beyond", x, 1, 1_000_000, U);
        Due.due("beyond", x.measure(0, 5), -1);
        rate("first", x, 1, 999_999, U);
        rate("by the second width", x, 1, 3, (1048576 - 999_996) * 1000);
    }

    /** A number that is one is the number told last, whatever its rate. */
    private static void counterStays() {
        RoundRows x = Due.stored("step 5; measure c counter 8 16 silence 6 least 2 most 9;");
        rate("first", x, 1, 100, U);
        rate("silence", x, 7, 130, U);
        Due.due("stays", x.measure(0, 5), 130);
        rate("above most", x, 1, 140, U);
        Due.due("stays", x.measure(0, 5), 140);
        rate("below least", x, 1, 141, U);
        Due.due("stays", x.measure(0, 5), 141);
        rate("known", x, 1, 143, 2000);
        rate("known", x, 1, 152, 9000);
        // a gauge has none
        x = Due.stored("step 5; measure g gauge silence 6; measure a amount silence 6;");
        x.read(1, 7, 7, 0, 0);
        Due.due("gauge", x.measure(0, 5), -1);
        Due.due("amount", x.measure(1, 5), -1);
    }

    private static void values() {
        RoundRows x = Due.stored("step 4; measure g gauge silence 4;");
        Due.due("ahead of any", x.value(0), U);
        Due.due("none such", x.value(1), U);
        Due.due("none such", x.value(-1), U);
        x.read(3, 5, 0, 0, 0);
        Due.due("none over", x.value(0), U);
        Due.due("known units", x.measure(0, 4), 3);
        x.read(2, 8, 0, 0, 0);
        Due.due("5 5 5 8", x.value(0), 5750);
        Due.due("known units", x.measure(0, 4), 1);
        x.read(1, -1, 0, 0, 0);
        Due.due("known units", x.measure(0, 4), 1);
        x.read(2, 3, 0, 0, 0);
        Due.due("8 ? 3 3", x.value(0), 4666);
        Due.due("known units", x.measure(0, 4), 0);
        x.read(2, -1, 0, 0, 0);
        x.read(2, 3, 0, 0, 0);
        Due.due("? ? 3 3: half", x.value(0), U);
        x.read(1, 1, 0, 0, 0);
        x.read(9, 1, 0, 0, 0);
        Due.due("spans above silence", x.value(0), U);
        Due.due("rate above silence", x.rate(0), U);
        x.read(2, 6, 0, 0, 0);
        Due.due("? ? 6 6", x.value(0), U);
        x.read(4, 6, 0, 0, 0);
        Due.due("a whole step", x.value(0), 6000);
        // an odd step: half is no whole number
        x = Due.stored("step 5; measure g gauge silence 20;");
        x.read(2, -1, 0, 0, 0);
        x.read(3, 4, 0, 0, 0);
        Due.due("? ? 4 4 4", x.value(0), 4000);
        x.read(3, -1, 0, 0, 0);
        x.read(2, 4, 0, 0, 0);
        Due.due("? ? ? 4 4", x.value(0), U);
        // many steps by one reading
        x.read(2, 1, 0, 0, 0);
        Due.due("steps", x.read(14, 9, 0, 0, 0), 3);
        Due.due("the latest", x.value(0), 9000);
        Due.due("units", x.measure(0, 4), 1);
    }

    private static void turns() {
        RoundRows x = Due.stored("step 4; measure g gauge silence 4 least 2 most 9; measure h gauge silence 5;");
        int[][] bad = {{2, 0, 5}, {-1, 0, 5}, {0, 3, 5}, {0, -1, 5}, {0, 0, 0}, {0, 0, 1001}, {0, 1, -1}, {0, 1, 10}, {0, 2, 1},
            {0, 2, 1_000_000}, {1, 1, 1_000_000}, {0, 0, -7}};
        for (int[] t : bad) {
            Due.due("turn(" + t[0] + ", " + t[1] + ", " + t[2] + ")", x.turn(t[0], t[1], t[2]), -1);
        }
        Due.due("no acts", x.about(9), 0);
        Due.due("silence", x.turn(0, 0, 1000), 4);
        Due.due("silence", x.turn(0, 0, 1), 1000);
        Due.due("least", x.turn(0, 1, 9), 2);
        Due.due("least", x.turn(0, 1, 0), 9);
        Due.due("most", x.turn(0, 2, 0), 9);
        Due.due("most", x.turn(0, 2, 999_999), 0);
        Due.due("least", x.turn(0, 1, 999_999), 0);
        Due.due("most as it is", x.turn(0, 2, 999_999), 999_999);
        Due.due("acts", x.about(9), 8);
        Due.due("other", x.measure(1, 0), 5);
        Due.due("other", x.measure(1, 1), 0);
        Due.due("other", x.measure(1, 2), 999_999);
        x = Due.stored("step 4; measure g gauge silence 4 least 2 most 9;");
        x.turn(0, 0, 2);
        rate("silence is 2", x, 3, 5, U);
        rate("silence is 2", x, 2, 5, 5000);
        x.turn(0, 1, 6);
        rate("least is 6", x, 1, 5, U);
        rate("least is 6", x, 1, 6, 6000);
        x.turn(0, 2, 7);
        rate("most is 7", x, 1, 7, 7000);
        rate("most is 7", x, 1, 8, U);
        Due.due("all", x.measure(0, 0) * 100 + x.measure(0, 1) * 10 + x.measure(0, 2), 267);
    }

    private static void measures() {
        RoundRows x = Due.stored("step 4; measure g gauge silence 4 least 2 most 9; measure c counter 5 6 silence 5;");
        x.read(3, 4, 22, 0, 0);
        int[][] want = {{4, 2, 9, 0, 3, -1}, {5, 0, 999_999, 2, 0, 22}};
        for (int m = 0; m < 2; m++) {
            for (int what = 0; what < 6; what++) {
                Due.due("measure(" + m + ", " + what + ")", x.measure(m, what), want[m][what]);
            }
            Due.due("measure 6", x.measure(m, 6), -1);
            Due.due("measure -1", x.measure(m, -1), -1);
        }
        for (int what = 0; what < 6; what++) {
            Due.due("no measure 2", x.measure(2, what), -1);
            Due.due("no measure -1", x.measure(-1, what), -1);
        }
    }

    private static void would() {
        RoundRows x = Due.stored("step 10; measure g gauge silence 20; measure c counter 4 8 silence 20; measure a amount silence 20 most 9;");
        Due.due("value ahead of any", x.would(3, 5, 0, 1), U);
        Due.due("a first counter", x.would(10, 5, 1, 0), U);
        x.read(6, 4, 10, 12, 0);
        Due.due("gauge", x.would(4, 9, 0, 0), 9000);
        Due.due("gauge's value", x.would(4, 9, 0, 1), 6000);
        Due.due("gauge's value, nine units", x.would(3, 9, 0, 1), U);
        Due.due("steps", x.would(3, 9, 0, 2), 0);
        Due.due("steps", x.would(4, 9, 0, 2), 1);
        Due.due("two steps", x.would(14, 9, 0, 2), 2);
        Due.due("two steps", x.would(14, 9, 0, 1), 9000);
        Due.due("one step and more", x.would(13, 9, 0, 1), 6000);
        Due.due("unknown: six known units are enough", x.would(4, -1, 0, 1), 4000);
        Due.due("unknown: two steps", x.would(14, -1, 0, 1), U);
        Due.due("unknown: rate", x.would(14, -1, 0, 0), U);
        Due.due("unknown: steps", x.would(14, -1, 0, 2), 2);
        Due.due("counter up", x.would(2, 13, 1, 0), 1500);
        Due.due("counter down", x.would(1, 9, 1, 0), 15000);
        Due.due("counter's value", x.would(4, 30, 1, 1), U);
        Due.due("counter's second step", x.would(14, 24, 1, 1), 1000);
        Due.due("counter too great", x.would(1, 256, 1, 0), U);
        Due.due("amount", x.would(4, 36, 2, 0), 9000);
        Due.due("amount", x.would(4, 37, 2, 0), U);
        Due.due("silence", x.would(21, 1, 0, 0), U);
        Due.due("silence", x.would(20, 1, 0, 0), 1000);
        for (int what = 0; what < 3; what++) {
            Due.due("no such measure", x.would(1, 1, 3, what), U);
            Due.due("no such measure", x.would(1, 1, -1, what), U);
            Due.due("later", x.would(0, 1, 0, what), U);
            Due.due("later", x.would(-1, 1, 0, what), U);
            Due.due("later", x.would(1001, 1, 0, what), U);
        }
        Due.due("another what", x.would(1, 1, 0, 3), U);
        Due.due("another what", x.would(1, 1, 0, -1), U);
        x.read(4, 9, 10, 12, 0);
        Due.due("no step over: the latest value", x.would(3, 1, 0, 1), 6000);
        Due.due("no step over, unknown", x.would(3, -1, 0, 1), 6000);
    }

    private static void wouldDoesNothing() {
        RoundRows x = Due.stored("step 5; measure c counter 4 8 silence 20;");
        x.read(7, 3, 0, 0, 0);
        x.read(1, 8, 0, 0, 0);
        x.undo();
        x.would(9, 100, 0, 0);
        x.would(9, 100, 0, 1);
        x.would(9, 100, 0, 2);
        x.fits(9, 0);
        Due.due("told", x.measure(0, 5), 3);
        Due.due("units", x.measure(0, 4), 0);
        Due.due("time", x.about(5), 7);
        Due.due("redo", x.redo(), true);
        Due.due("rate", x.rate(0), 5000);
    }

    private static void fitsOfGaugesAndAmounts() {
        RoundRows x = Due.stored("step 5; measure g gauge silence 20 least 7; measure a amount silence 300 least 7 most 7;");
        Due.due("gauge", x.fits(1, 0), 7);
        Due.due("gauge", x.fits(20, 0), 7);
        Due.due("gauge's silence", x.fits(21, 0), -1);
        Due.due("amount", x.fits(1, 1), 7);
        Due.due("amount", x.fits(11, 1), 77);
        x.turn(1, 2, 999_999);
        x.turn(1, 1, 3333);
        Due.due("amount at the edge", x.fits(300, 1), 999_900);
        x.turn(1, 1, 333_333);
        Due.due("amount just at the greatest number", x.fits(3, 1), 999_999);
        x.turn(1, 1, 3334);
        Due.due("amount beyond", x.fits(300, 1), -1);
        Due.due("amount's silence", x.fits(301, 1), -1);
        x.turn(1, 1, 0);
        Due.due("amount of 0", x.fits(300, 1), 0);
        Due.due("later", x.fits(0, 0), -1);
        Due.due("later", x.fits(-1, 0), -1);
        Due.due("later", x.fits(1001, 0), -1);
        Due.due("no such measure", x.fits(1, 2), -1);
        Due.due("no such measure", x.fits(1, -1), -1);
        x = Due.stored("step 5; measure g gauge silence 20 least 999999;");
        Due.due("greatest", x.fits(1, 0), 999_999);
    }

    private static void fitsOfCounters() {
        RoundRows x = Due.stored("step 5; measure c counter 4 6 silence 20;");
        Due.due("none told", x.fits(1, 0), -1);
        x.read(1, 40, 0, 0, 0);
        Due.due("0 is by the second width: 24", x.fits(1, 0), 0);
        // what a span of 1 allows: 25 and more is known first by the second width
        x.turn(0, 1, 25);
        Due.due("25 by the second width", x.fits(1, 0), 1);
        // 0 to 23 are 24 to 47 more, 24 to 39 are 0 to 15 more, 40 to 63 are 0 to 23 more
        x.turn(0, 1, 47);
        Due.due("47", x.fits(1, 0), 23);
        x.turn(0, 1, 48);
        Due.due("48", x.fits(1, 0), -1);
        x.turn(0, 1, 0);
        x.turn(0, 2, 23);
        Due.due("23 at most", x.fits(1, 0), 24);
        x.turn(0, 1, 10);
        Due.due("10 to 23", x.fits(1, 0), 34);
        x.turn(0, 1, 16);
        Due.due("16 to 23", x.fits(1, 0), 56);
        Due.due("32 to 46 by a span of 2", x.fits(2, 0), 8);
        // a rate is cut: 47 by 2 is 23500, above 23
        x.turn(0, 1, 23);
        Due.due("46 by 2", x.fits(2, 0), 22);
        x.turn(0, 0, 1000);
        x.turn(0, 1, 0);
        x.turn(0, 2, 0);
        // 0 more by a span of 1000 (1 more is a thousandth), though 24 is 0 more by the first width
        Due.due("none more by 1000", x.fits(1000, 0), 24);
        x.turn(0, 0, 20);
        Due.due("silence", x.fits(21, 0), -1);
        x.read(1, 64, 0, 0, 0);
        Due.due("none told last", x.fits(1, 0), -1);
        x = Due.stored("step 5; measure c counter 4 20 silence 1000 most 0;");
        x.read(1, 999_999, 0, 0, 0);
        Due.due("nothing more, by a span of 1", x.fits(1, 0), 999_983);
        x.read(1, 5, 0, 0, 0);
        Due.due("nothing more, by a span of 1", x.fits(1, 0), 5);
        x.turn(0, 2, 999_999);
        x.turn(0, 1, 900_000);
        Due.due("far", x.fits(1, 0), 900_005);
        x.turn(0, 1, 999_995);
        Due.due("beyond", x.fits(1, 0), -1);
    }
}
