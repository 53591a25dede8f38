/** The document's sentences of FORECASTS, each with its boundary cases; promises 25 to 30. */
public final class ForecastTest {
    private static final int U = RoundRows.UNKNOWN;
    private static final int INT_MOST = 2147483647;
    private static final int INT_LEAST = -2147483648;
    /** A number that makes a RATE UNKNOWN. */
    private static final int X = -1;
    /** No MEASURE with a FORECAST, of a text in which the first one alone has one. */
    private static final int[] NONE_SUCH = {1, -1, 2, 4, INT_MOST, INT_LEAST};
    private static final int HELD = 2_000_000_000;

    public static void main(String[] args) {
        places();
        zeroAtFirst();
        begins();
        tells();
        odds();
        newLevel();
        newTrend();
        newSwing();
        newSpread();
        oneByOne();
        unknownValues();
        heldWithin();
        heldByFormulas();
        latestThirty();
        forecastTells();
        forecastNone();
        placeTells();
        placeNone();
        toldTells();
        toldNone();
        oddTells();
        oddNone();
        alarmsTells();
        alarmsNone();
        aheadTells();
        aheadNone();
        Due.finish();
    }

    /** A STEP of one unit, a FORECAST of the first MEASURE and none of the second, and numbers that are its VALUES. */
    private static RoundRows made(String season, int... numbers) {
        RoundRows x = Due.stored("step 1; measure g gauge silence 1000; measure h gauge silence 1000; forecast g season " + season + ";");
        Due.reads(x, 1, numbers);
        return x;
    }

    /** Its LEVEL stays, each PLACE's SWING is its latest VALUE's, and its SPREAD how far that was from what was TOLD. */
    private static RoundRows swinging(int band, int... numbers) {
        return made("2 by 0 0 16 band " + band, numbers);
    }

    private static void state(String of, RoundRows x, int level, int trend) {
        Due.due(of + ": level", x.forecast(0, 0), level);
        Due.due(of + ": trend", x.forecast(0, 1), trend);
    }

    // ---- Terms

    /**
     * Terms: "A FORECAST follows the VALUES of a MEASURE, STEP by STEP; the STEP's PLACE is its number (from 0 on) modulo season"
     */
    private static void places() {
        for (int season : new int[] {2, 3, 23, 24}) {
            RoundRows x = made(season + " by 0 0 16 band 1");
            for (int s = 0; s <= 2 * season; s++) {
                x.read(1, s == season ? 50 : 40, 0, 0, 0);
            }
            // the STEP of number season was at PLACE 0: told 40, it was 50; then 40, told 50
            Due.due("season " + season + ": spread of 0", x.place(0, 0, 1), 10_000);
            for (int p = 1; p < season; p++) {
                Due.due("season " + season + ": spread of " + p, x.place(0, p, 1), 0);
            }
            Due.due("told at " + 2 * season, x.told(0, 0, 0), 50_000);
            Due.due("told at the one ahead", x.told(0, 1, 0), 40_000);
        }
        // STEPS ahead of its BEGINNING have their numbers, too
        RoundRows x = made("3 by 0 0 16 band 1", X, X, 10, 15);
        Due.due("the STEP of number 3: PLACE 0", x.place(0, 0, 0), 5000);
        // several STEPS by one READING are followed one by one
        x = made("2 by 16 16 0 band 1", 0, 1);
        x.read(4, 1, 0, 0, 0);
        Due.due("kept", x.forecast(0, 5), 5);
    }

    /** Terms: "LEVEL, TREND, and of each PLACE a SWING and a SPREAD are 0 at first" */
    private static void zeroAtFirst() {
        for (RoundRows x : new RoundRows[] {made("24 by 16 16 16 band 1"), made("24 by 16 16 16 band 1", X)}) {
            state("at first", x, 0, 0);
            for (int p = 0; p < 24; p++) {
                Due.due("swing of " + p, x.place(0, p, 0), 0);
                Due.due("spread of " + p, x.place(0, p, 1), 0);
            }
        }
    }

    /** Terms: "it BEGINS with the first known VALUE, which is its LEVEL then." */
    private static void begins() {
        RoundRows x = made("2 by 16 16 16 band 1", X, X);
        Due.due("none known", x.forecast(0, 2), 0);
        state("none known", x, 0, 0);
        x.read(1, 7, 0, 0, 0);
        Due.due("the first known", x.forecast(0, 2), 1);
        state("the first known", x, 7000, 0);
        Due.due("its SWING stays", x.place(0, 0, 0), 0);
        Due.due("its SPREAD stays", x.place(0, 0, 1), 0);
        Due.due("it tells nothing of it", x.forecast(0, 5), 0);
        x = made("2 by 16 16 16 band 1", 0);
        Due.due("0 is known", x.forecast(0, 2), 1);
        x.read(1, X, 0, 0, 0);
        Due.due("it does not begin again", x.told(0, 0, 0), 0);
        x.read(1, 5, 0, 0, 0);
        Due.due("nor by a later one", x.forecast(0, 5), 2);
    }

    /** Terms: "At each later STEP it TELLS LEVEL and TREND and the SWING of its PLACE, together." */
    private static void tells() {
        RoundRows x = made("2 by 8 8 8 band 9", 10, 20);
        // LEVEL 15, TREND 2.5, SWING of 1: 2.5
        state("10 20", x, 15_000, 2500);
        Due.due("swing", x.place(0, 1, 0), 2500);
        Due.due("told of the first later one", x.told(0, 0, 0), 10_000);
        x.read(1, 15, 0, 0, 0);
        Due.due("LEVEL and TREND", x.told(0, 0, 0), 17_500);
        x.read(1, X, 0, 0, 0);
        // LEVEL 16.25, TREND (1.25 + 2.5) / 2, SWING of 1: 2.5
        Due.due("LEVEL and TREND and SWING, of an UNKNOWN one, too", x.told(0, 0, 0), 16_250 + 1875 + 2500);
    }

    /**
     * Terms: "Is the VALUE v known: it is ODD, if the SPREAD of the PLACE is above 0, and v is farther than band times that from what
     * was TOLD."
     */
    private static void odds() {
        // PLACE 1: told 10, it was 12: SPREAD 2; then told 12
        int[][] want = {
            // band, number, odd
            {1, 14, 0}, {1, 15, 1}, {1, 10, 0}, {1, 9, 1}, {2, 16, 0}, {2, 17, 1}, {2, 8, 0}, {2, 7, 1}, {9, 30, 0}, {9, 31, 1}, {5, 2, 0},
            {5, 1, 1}, {1, 12, 0}, {1, X, 0},
        };
        for (int[] w : want) {
            Due.due("band " + w[0] + ", number " + w[1], swinging(w[0], 10, 12, 10, w[1]).told(0, 0, 1), w[2]);
        }
        Due.due("a SPREAD of 0", swinging(1, 10, 10, 10, 99).told(0, 0, 1), 0);
        Due.due("a SPREAD of 0 by its weight", made("2 by 0 0 0 band 1", 10, 12, 10, 99).told(0, 0, 1), 0);
        // a SPREAD of a thousandth is above 0: 20 thousandths by a sixteenth
        RoundRows x = Due.stored("step 50; measure a amount silence 50; forecast a season 2 by 0 0 1 band 9;");
        Due.reads(x, 50, 0, 1, 0);
        Due.due("a SPREAD of a thousandth", x.place(0, 1, 1), 1);
        x.read(50, 1, 0, 0, 0);
        Due.due("told", x.told(0, 0, 0), 1);
        Due.due("odd", x.told(0, 0, 1), 1);
        // the SPREAD of the STEP's own PLACE, and the one ahead of this VALUE
        Due.due("the other PLACE's SPREAD", swinging(1, 10, 10, 14, 99).told(0, 0, 1), 0);
    }

    /**
     * Terms: "Then, with weights A, B, C in sixteenths: new LEVEL = (A * (v - SWING) + (16 - A) * (LEVEL + TREND)) / 16"
     */
    private static void newLevel() {
        state("A 0", made("2 by 0 0 0 band 1", 10, 26), 10_000, 0);
        state("A 1", made("2 by 1 0 0 band 1", 10, 26), 11_000, 0);
        state("A 15", made("2 by 15 0 0 band 1", 10, 26), 25_000, 0);
        state("A 16", made("2 by 16 0 0 band 1", 10, 26), 26_000, 0);
        // with a TREND: 10, then 26: LEVEL 26, TREND 16; then v 26 by A 16, and LEVEL and TREND by A 0
        state("A 16 with a TREND", made("2 by 16 16 0 band 1", 10, 26, 26), 26_000, 0);
        // A 8: LEVEL 18, TREND 8; then (8 * 10 + 8 * 26) / 16
        state("A 8 with a TREND", made("2 by 8 16 0 band 1", 10, 26, 10), 18_000, 0);
        // with a SWING: PLACE 1 has (26 - 18) = 8; LEVEL 18; then PLACE 0 leaves 18; then (8 * (26 - 8) + 8 * 18) / 16
        state("A 8 with a SWING", made("2 by 8 0 16 band 1", 10, 26, 18, 26), 18_000, 0);
        // cut towards 0: 1000 / 16; and, LEVEL being 937 and SWING of 1 15,000, (0 - 15000 + 15 * 937) / 16 = -59.06
        state("cut", made("2 by 1 0 0 band 1", 0, 1), 62, 0);
        state("cut below 0", made("2 by 1 0 16 band 1", 0, 16, 0, 0), -59, 0);
    }

    /** Terms: "new TREND = (B * (new LEVEL - LEVEL) + (16 - B) * TREND) / 16" */
    private static void newTrend() {
        state("B 0", made("2 by 16 0 0 band 1", 10, 26), 26_000, 0);
        state("B 1", made("2 by 16 1 0 band 1", 10, 26), 26_000, 1000);
        state("B 15", made("2 by 16 15 0 band 1", 10, 26), 26_000, 15_000);
        state("B 16", made("2 by 16 16 0 band 1", 10, 26), 26_000, 16_000);
        state("B 8 with a TREND", made("2 by 16 8 0 band 1", 10, 26, 26), 26_000, 4000);
        state("down", made("2 by 16 16 0 band 1", 26, 10), 10_000, -16_000);
        state("cut towards 0", made("2 by 16 1 0 band 1", 1, 0), 0, -62);
    }

    /** Terms: "SWING of the PLACE = (C * (v - new LEVEL) + (16 - C) * SWING) / 16" */
    private static void newSwing() {
        Due.due("C 0", made("2 by 0 0 0 band 1", 10, 26).place(0, 1, 0), 0);
        Due.due("C 1", made("2 by 0 0 1 band 1", 10, 26).place(0, 1, 0), 1000);
        Due.due("C 15", made("2 by 0 0 15 band 1", 10, 26).place(0, 1, 0), 15_000);
        Due.due("C 16", made("2 by 0 0 16 band 1", 10, 26).place(0, 1, 0), 16_000);
        Due.due("of the new LEVEL", made("2 by 8 0 16 band 1", 10, 26).place(0, 1, 0), 8000);
        Due.due("below 0, cut towards 0", made("2 by 0 0 1 band 1", 1, 0).place(0, 1, 0), -62);
        Due.due("C 8 with a SWING", made("2 by 0 0 8 band 1", 10, 26, 10, 10).place(0, 1, 0), 4000);
        Due.due("the other PLACE's stays", made("2 by 0 0 16 band 1", 10, 26).place(0, 0, 0), 0);
    }

    /** Terms: "SPREAD of it = (C * (how far v was from what was TOLD) + (16 - C) * SPREAD) / 16." */
    private static void newSpread() {
        Due.due("C 0", made("2 by 0 0 0 band 1", 10, 26).place(0, 1, 1), 0);
        Due.due("C 1", made("2 by 0 0 1 band 1", 10, 26).place(0, 1, 1), 1000);
        Due.due("C 16", made("2 by 0 0 16 band 1", 10, 26).place(0, 1, 1), 16_000);
        Due.due("below what was TOLD", made("2 by 0 0 16 band 1", 26, 10).place(0, 1, 1), 16_000);
        Due.due("of what was TOLD, not of the new LEVEL", made("2 by 16 0 16 band 1", 10, 26).place(0, 1, 1), 16_000);
        Due.due("C 8 with a SPREAD", made("2 by 16 0 8 band 1", 10, 26, 26, 26).place(0, 1, 1), 4000);
        Due.due("the other PLACE's stays", made("2 by 0 0 16 band 1", 10, 26).place(0, 0, 1), 0);
    }

    /**
     * Terms: "Then, with weights A, B, C in sixteenths: new LEVEL = (A * (v - SWING) + (16 - A) * (LEVEL + TREND)) / 16; new TREND =
     * (B * (new LEVEL - LEVEL) + (16 - B) * TREND) / 16; SWING of the PLACE = (C * (v - new LEVEL) + (16 - C) * SWING) / 16; SPREAD of
     * it = (C * (how far v was from what was TOLD) + (16 - C) * SPREAD) / 16."
     */
    private static void oneByOne() {
        RoundRows x = made("2 by 4 8 12 band 2", 10, 20);
        // told 10000; level (4 * 20000 + 12 * 10000) / 16 = 12500; trend (8 * 2500) / 16 = 1250
        // swing of 1: 12 * 7500 / 16 = 5625; spread of 1: 12 * 10000 / 16 = 7500
        whole("two", x, 12_500, 1250, 0, 5625, 0, 7500, 10_000, 0);
        x.read(1, 13, 0, 0, 0);
        // told 13750; level (4 * 13000 + 12 * 13750) / 16 = 13562; trend (8 * 1062 + 8 * 1250) / 16 = 1156
        // swing of 0: 12 * -562 / 16 = -421; spread of 0: 12 * 750 / 16 = 562
        whole("three", x, 13_562, 1156, -421, 5625, 562, 7500, 13_750, 0);
        x.read(1, X, 0, 0, 0);
        // told 13562 + 1156 + 5625; level 14718
        whole("four", x, 14_718, 1156, -421, 5625, 562, 7500, 20_343, 0);
        x.read(1, 30, 0, 0, 0);
        // told 14718 + 1156 - 421 = 15453: 14547 farther than 2 * 562
        // level (4 * 30421 + 12 * 15874) / 16 = 312172 / 16 = 19510; trend (8 * 4792 + 8 * 1156) / 16 = 2974
        // swing of 0: (12 * 10490 + 4 * -421) / 16 = 124196 / 16 = 7762; spread: (12 * 14547 + 4 * 562) / 16 = 176812 / 16 = 11050
        whole("five", x, 19_510, 2974, 7762, 5625, 11_050, 7500, 15_453, 1);
    }

    private static void whole(String of, RoundRows x, int level, int trend, int... more) {
        state(of, x, level, trend);
        int[] got = {x.place(0, 0, 0), x.place(0, 1, 0), x.place(0, 0, 1), x.place(0, 1, 1), x.told(0, 0, 0), x.told(0, 0, 1)};
        String[] names = {"swing of 0", "swing of 1", "spread of 0", "spread of 1", "told", "odd"};
        for (int i = 0; i < got.length; i++) {
            Due.due(of + ": " + names[i], got[i], more[i]);
        }
    }

    /** Terms: "Is it UNKNOWN: LEVEL is TREND more, no more happens." */
    private static void unknownValues() {
        RoundRows x = made("2 by 16 8 16 band 1", 10, 26, 20);
        int trend = x.forecast(0, 1);
        int[] places = {x.place(0, 0, 0), x.place(0, 1, 0), x.place(0, 0, 1), x.place(0, 1, 1)};
        Due.due("a TREND", trend, 1000);
        for (int n = 1; n <= 5; n++) {
            x.read(1, X, 0, 0, 0);
            state("UNKNOWN " + n, x, 20_000 + n * trend, trend);
            for (int k = 0; k < 4; k++) {
                Due.due("place " + k, x.place(0, k % 2, k / 2), places[k]);
            }
            Due.due("not odd", x.told(0, 0, 1), 0);
        }
    }

    /** Terms: "All is held within -2,000,000,000 and 2,000,000,000." */
    private static void heldWithin() {
        // LEVEL and TREND follow at once: 900,000,000 of both
        RoundRows x = made("2 by 16 16 16 band 1", 0, 900_000);
        state("within", x, 900_000_000, 900_000_000);
        x.read(1, X, 0, 0, 0);
        state("within", x, 1_800_000_000, 900_000_000);
        Due.due("what it will tell is held", x.ahead(0, 1), HELD);
        Due.due("what it will tell stays held", x.ahead(0, 48), HELD);
        x.read(1, X, 0, 0, 0);
        state("LEVEL is held", x, HELD, 900_000_000);
        x.read(1, X, 0, 0, 0);
        Due.due("told is held", x.told(0, 0, 0), HELD);
        x.read(1, 0, 0, 0, 0);
        state("TREND just there", x, 0, -HELD);
        Due.due("SPREAD just there", x.place(0, 1, 1), HELD);
        x.read(1, X, 0, 0, 0);
        state("LEVEL just there", x, -HELD, -HELD);
        x.read(1, X, 0, 0, 0);
        state("LEVEL is held below", x, -HELD, -HELD);
        Due.due("told is held below", x.told(0, 0, 0), -HELD);
        x.read(1, 999_999, 0, 0, 0);
        state("TREND is held", x, 999_999_000, HELD);
        Due.due("SPREAD is held", x.place(0, 0, 1), HELD);
        // four times 499,999,500 is just within, five times is not
        x = Due.stored("step 2; measure a amount silence 1000; forecast a season 2 by 16 16 16 band 1;");
        Due.reads(x, 2, 0, 999_999, X, X, X);
        state("within", x, 1_999_998_000, 499_999_500);
        x.read(2, X, 0, 0, 0);
        state("beyond", x, HELD, 499_999_500);
    }

    /** Terms: "All is held within -2,000,000,000 and 2,000,000,000." */
    private static void heldByFormulas() {
        // a LEVEL that rises ever faster, by its formula beyond what can be: were it not held, TREND would not be 0
        RoundRows x = made("2 by 1 16 0 band 1", 0, 999_999, 999_999, 999_999, 999_999, 999_999);
        x.read(12, X, 0, 0, 0);
        Due.due("at the edge", x.forecast(0, 0), HELD);
        Due.due("and rising", x.forecast(0, 1) > 200_000_000, true);
        x.read(1, 999_999, 0, 0, 0);
        state("new LEVEL is held", x, HELD, 0);
        x = made("2 by 1 16 0 band 1", 999_999, 0, 0, 0, 0, 0);
        x.read(12, X, 0, 0, 0);
        Due.due("at the edge below", x.forecast(0, 0), -HELD);
        Due.due("and falling", x.forecast(0, 1) < -200_000_000, true);
        x.read(1, 0, 0, 0, 0);
        state("new LEVEL is held below", x, -HELD, 0);
        // a VALUE far above a LEVEL that fell slowly
        x = made("2 by 1 16 16 band 1", 999_999, 0);
        x.read(50, X, 0, 0, 0);
        Due.due("at the edge below", x.forecast(0, 0), -HELD);
        x.read(1, 999_999, 0, 0, 0);
        Due.due("LEVEL is within", x.forecast(0, 0) > -1_900_000_000, true);
        Due.due("SWING is held", x.place(0, 0, 0), HELD);
    }

    /** Terms: "The latest 30 STEPS behind its BEGINNING: what was TOLD, whether ODD." */
    private static void latestThirty() {
        RoundRows x = made("2 by 16 0 16 band 1", X, 100);
        for (int s = 1; s <= 62; s++) {
            x.read(1, 100 + s, 0, 0, 0);
            int many = Math.min(s, 30);
            Due.due("kept of " + s, x.forecast(0, 5), many);
            Due.due("the eldest of " + s, x.told(0, many - 1, 0) == U, false);
            Due.due("one older of " + s, x.told(0, many, 0), U);
            Due.due("one older of " + s, x.told(0, many, 1), U);
        }
        // the LEVEL follows at once, so each one TELLS the VALUE ahead of it and its PLACE's SWING, which stays 0
        for (int i = 0; i < 30; i++) {
            Due.due("told " + i, x.told(0, i, 0), 1000 * (161 - i));
        }
        x.read(100, 7, 0, 0, 0);
        Due.due("kept by one READING", x.forecast(0, 5), 30);
        Due.due("the eldest", x.told(0, 29, 0), 7000);
    }

    // ---- Promises 25 to 27

    /**
     * Promise 25: "Of a FORECAST of a MEASURE what 0: LEVEL, 1: TREND, 2: 1 if it BEGAN, else 0, 3: season, 4: band, 5: how many STEPS
     * are kept."
     */
    private static void forecastTells() {
        forecasts("at first", made("24 by 16 16 0 band 9"), 0, 0, 0, 24, 9, 0);
        forecasts("UNKNOWN", made("2 by 16 16 0 band 1", X), 0, 0, 0, 2, 1, 0);
        forecasts("begun", made("2 by 16 16 0 band 1", X, 9), 9000, 0, 1, 2, 1, 0);
        forecasts("one", made("2 by 16 16 0 band 1", X, 9, 4), 4000, -5000, 1, 2, 1, 1);
        forecasts("an UNKNOWN one", made("2 by 16 16 0 band 1", X, 9, 4, X), -1000, -5000, 1, 2, 1, 2);
        RoundRows x = made("2 by 0 16 0 band 1", 5);
        x.read(30, 6, 0, 0, 0);
        forecasts("thirty", x, 5000, 0, 1, 2, 1, 30);
        x.read(1, 6, 0, 0, 0);
        forecasts("thirty-one", x, 5000, 0, 1, 2, 1, 30);
    }

    private static void forecasts(String of, RoundRows x, int... want) {
        for (int what = 0; what < 6; what++) {
            Due.due(of + ": forecast(0, " + what + ")", x.forecast(0, what), want[what]);
        }
    }

    /** Promise 25: "UNKNOWN if there is none such, or for another what." */
    private static void forecastNone() {
        RoundRows x = made("2 by 8 8 8 band 1", 1, 2);
        for (int what : new int[] {-1, 6, INT_MOST, INT_LEAST}) {
            Due.due("forecast(0, " + what + ")", x.forecast(0, what), U);
        }
        for (int m : NONE_SUCH) {
            for (int what = 0; what < 6; what++) {
                Due.due("forecast(" + m + ", " + what + ")", x.forecast(m, what), U);
            }
        }
        Due.due("of no text", new RoundRows().forecast(0, 0), U);
    }

    /** Promise 26: "Of a PLACE of it what 0: SWING, 1: SPREAD" */
    private static void placeTells() {
        RoundRows x = made("3 by 0 0 16 band 1", 10, 12, 9, 10, 17);
        int[][] want = {{0, 0}, {7000, 5000}, {-1000, 1000}};
        for (int p = 0; p < 3; p++) {
            Due.due("swing of " + p, x.place(0, p, 0), want[p][0]);
            Due.due("spread of " + p, x.place(0, p, 1), want[p][1]);
        }
    }

    /** Promise 26: "UNKNOWN likewise." */
    private static void placeNone() {
        for (int season = 2; season <= 24; season += 22) {
            RoundRows x = made(season + " by 8 8 8 band 1", 1, 2);
            for (int what = 0; what < 2; what++) {
                Due.due("the last PLACE", x.place(0, season - 1, what) == U, false);
                for (int p : new int[] {-1, season, season + 1, 24, 25, INT_MOST, INT_LEAST}) {
                    Due.due("place(0, " + p + ", " + what + ")", x.place(0, p, what), U);
                }
                for (int m : NONE_SUCH) {
                    Due.due("place(" + m + ", 0, " + what + ")", x.place(m, 0, what), U);
                }
            }
            for (int what : new int[] {-1, 2, INT_MOST, INT_LEAST}) {
                Due.due("place's what " + what, x.place(0, 0, what), U);
            }
        }
    }

    /** Promise 27: "What was TOLD of the i-th latest STEP kept (what 0), whether that was ODD (1: 1, 0)" */
    private static void toldTells() {
        // told 10 10 12 10 18 10 37, of which that of 18 was just as far, that of 37 ODD
        RoundRows x = swinging(3, 10, 12, 10, 18, 10, 37, 10, 37);
        int[][] want = {{37, 0}, {10, 0}, {18, 1}, {10, 0}, {12, 0}, {10, 0}, {10, 0}};
        for (int i = 0; i < want.length; i++) {
            Due.due("told " + i, x.told(0, i, 0), 1000 * want[i][0]);
            Due.due("odd " + i, x.told(0, i, 1), want[i][1]);
        }
    }

    /** Promise 27: "UNKNOWN likewise." */
    private static void toldNone() {
        RoundRows x = made("2 by 8 8 8 band 1", X, 1, 2, X);
        for (int what = 0; what < 2; what++) {
            Due.due("the eldest kept", x.told(0, 1, what) == U, false);
            for (int i : new int[] {-1, 2, 3, 30, INT_MOST, INT_LEAST}) {
                Due.due("told(0, " + i + ", " + what + ")", x.told(0, i, what), U);
            }
            for (int m : NONE_SUCH) {
                Due.due("told(" + m + ", 0, " + what + ")", x.told(m, 0, what), U);
            }
            Due.due("not begun", made("2 by 8 8 8 band 1", X).told(0, 0, what), U);
            Due.due("begun alone", made("2 by 8 8 8 band 1", X, 1).told(0, 0, what), U);
        }
        for (int what : new int[] {-1, 2, INT_MOST, INT_LEAST}) {
            Due.due("told's what " + what, x.told(0, 0, what), U);
        }
    }

    // ---- Promises 28 to 30

    /** Thirty-one STEPS kept in turn, of which every fourth is ODD: the first of them is gone. */
    private static RoundRows thirty() {
        RoundRows x = made("4 by 0 0 1 band 1", 10, 10, 10, 26);
        // PLACE 3: SPREAD 1, then a VALUE farther and farther from what is TOLD
        for (int s = 4; s < 32; s++) {
            x.read(1, s % 4 == 3 ? 100 * s : 10, 0, 0, 0);
        }
        return x;
    }

    /** Promise 28: "How many of the latest n (1 .. 30; those that are kept) were ODD" */
    private static void oddTells() {
        RoundRows x = swinging(3, 10, 12, 10, 18, 10, 37, 10, 37);
        int[][] want = {{1, 0}, {2, 0}, {3, 1}, {7, 1}, {8, 1}, {30, 1}};
        for (int[] w : want) {
            Due.due("odd(0, " + w[0] + ")", x.odd(0, w[0]), w[1]);
        }
        Due.due("none is kept", swinging(3, 10).odd(0, 30), 0);
        Due.due("not begun", swinging(3, X).odd(0, 1), 0);
        x = thirty();
        Due.due("kept", x.forecast(0, 5), 30);
        for (int n = 1; n <= 30; n++) {
            // ODD are the latest, and each fourth ahead of it down to the STEP of number 7
            Due.due("of thirty: odd(0, " + n + ")", x.odd(0, n), Math.min(7, (n + 3) / 4));
        }
    }

    /** Promise 28: "UNKNOWN likewise." */
    private static void oddNone() {
        RoundRows x = thirty();
        Due.due("1", x.odd(0, 1), 1);
        for (int n : new int[] {0, -1, 31, INT_MOST, INT_LEAST}) {
            Due.due("odd(0, " + n + ")", x.odd(0, n), U);
        }
        for (int m : NONE_SUCH) {
            Due.due("odd(" + m + ", 1)", x.odd(m, 1), U);
        }
    }

    /**
     * Promise 29: "Of the STEPS kept how many are the last of n (1 .. 30) one behind another, all of them kept, of which so many
     * (0 .. 30) at least were ODD"
     */
    private static void alarmsTells() {
        // seven kept, of which the third latest is ODD
        RoundRows x = swinging(3, 10, 12, 10, 18, 10, 37, 10, 37);
        int[][] want = {{1, 0, 7}, {1, 1, 1}, {1, 2, 0}, {2, 1, 2}, {3, 1, 3}, {4, 1, 3}, {5, 1, 3}, {6, 1, 2}, {7, 1, 1}, {7, 0, 1}, {8, 0, 0},
            {8, 1, 0}, {30, 0, 0}, {7, 2, 0}, {1, 30, 0}};
        for (int[] w : want) {
            Due.due("alarms(0, " + w[0] + ", " + w[1] + ")", x.alarms(0, w[0], w[1]), w[2]);
        }
        x = thirty();
        // ODD are those of numbers 31, 27, .. 7 of the STEPS of numbers 2 to 31
        int[][] thirty = {{30, 0, 1}, {29, 0, 2}, {30, 7, 1}, {30, 8, 0}, {29, 7, 1}, {29, 6, 2}, {1, 1, 7}, {4, 1, 25}, {4, 2, 0}, {5, 2, 6}, {9, 3, 5},
            {8, 2, 21}, {30, 30, 0}};
        for (int[] w : thirty) {
            Due.due("of thirty: alarms(0, " + w[0] + ", " + w[1] + ")", x.alarms(0, w[0], w[1]), w[2]);
        }
        Due.due("none is kept", swinging(3, 10).alarms(0, 1, 0), 0);
        // all ODD: each VALUE ten times farther than the one ahead of it
        x = made("2 by 0 0 1 band 1", 0, 1, 1);
        for (int far = 10; far <= 100_000; far *= 10) {
            x.read(1, far, 0, 0, 0);
            x.read(1, far, 0, 0, 0);
        }
        Due.due("ten of ten", x.alarms(0, 10, 10), 1);
        Due.due("eleven of ten", x.alarms(0, 10, 11), 0);
        Due.due("nine of nine", x.alarms(0, 9, 9), 2);
    }

    /** Promise 29: "UNKNOWN likewise." */
    private static void alarmsNone() {
        RoundRows x = thirty();
        Due.due("alarms(0, 30, 0)", x.alarms(0, 30, 0), 1);
        Due.due("alarms(0, 1, 30)", x.alarms(0, 1, 30), 0);
        for (int n : new int[] {0, -1, 31, INT_MOST, INT_LEAST}) {
            Due.due("alarms(0, " + n + ", 0)", x.alarms(0, n, 0), U);
        }
        for (int many : new int[] {-1, 31, INT_MOST, INT_LEAST}) {
            Due.due("alarms(0, 1, " + many + ")", x.alarms(0, 1, many), U);
        }
        for (int m : NONE_SUCH) {
            Due.due("alarms(" + m + ", 1, 0)", x.alarms(m, 1, 0), U);
        }
    }

    /** Promise 30: "What it will TELL of the n-th STEP from now on (1 .. 48), no VALUES coming" */
    private static void aheadTells() {
        RoundRows x = made("3 by 8 8 8 band 1", 10, 30, 20, 40, 15);
        int[] will = new int[49];
        for (int n = 1; n <= 48; n++) {
            will[n] = x.ahead(0, n);
            Due.due("ahead(0, " + n + ")", will[n], x.forecast(0, 0) + n * x.forecast(0, 1) + x.place(0, (4 + n) % 3, 0));
        }
        for (int n = 1; n <= 48; n++) {
            x.read(1, X, 0, 0, 0);
            Due.due("told of the STEP " + n + " later", x.told(0, 0, 0), will[n]);
        }
        // in the midst of a STEP the first one is that which is not over
        x = Due.stored("step 4; measure g gauge silence 9; forecast g season 2 by 0 0 16 band 1;");
        x.read(4, 10, 0, 0, 0);
        x.read(4, 12, 0, 0, 0);
        Due.due("the next one", x.ahead(0, 1), 10_000);
        x.read(3, 10, 0, 0, 0);
        Due.due("the one that is not over", x.ahead(0, 1), 10_000);
        Due.due("the one behind it", x.ahead(0, 2), 12_000);
        x.read(1, 10, 0, 0, 0);
        Due.due("it is over", x.ahead(0, 1), 12_000);
    }

    /** Promise 30: "UNKNOWN likewise, or if it has not BEGUN." */
    private static void aheadNone() {
        RoundRows x = made("2 by 8 8 8 band 1");
        Due.due("no STEP", x.ahead(0, 1), U);
        x.read(1, X, 0, 0, 0);
        Due.due("not begun", x.ahead(0, 1), U);
        x.read(1, 5, 0, 0, 0);
        Due.due("begun", x.ahead(0, 1), 5000);
        Due.due("48", x.ahead(0, 48), 5000);
        for (int n : new int[] {0, -1, 49, INT_MOST, INT_LEAST}) {
            Due.due("ahead(0, " + n + ")", x.ahead(0, n), U);
        }
        for (int m : NONE_SUCH) {
            Due.due("ahead(" + m + ", 1)", x.ahead(m, 1), U);
        }
        x.undo();
        Due.due("its BEGINNING taken back", x.ahead(0, 1), U);
    }
}
