/** Promises 25 to 30: forecasts, what they told, odd ones, alarms. */
public final class ForecastTest {
    private static final int U = RoundRows.UNKNOWN;
    private static final int X = -1;

    public static void main(String[] args) {
        noneSuch();
        begins();
        byHand();
        seasons();
        weights();
        odds();
        keepsThirty();
        aheads();
        held();
        Due.finish();
    }

    private static RoundRows made(int season, int a, int b, int c, int band) {
        return Due.stored("step 1; measure g gauge silence 99; measure h gauge silence 9; forecast g season " + season + " by " + a + " "
                + b + " " + c + " band " + band + ";");
    }

    private static void read(RoundRows x, int... numbers) {
        for (int n : numbers) {
            x.read(1, n, 0, 0, 0);
        }
    }

    private static void noneSuch() {
        RoundRows x = made(3, 8, 8, 8, 1);
        read(x, 1, 5, 3, 9);
        int[] none = {1, 2, -1, 2147483647, -2147483648};
        for (int m : none) {
            for (int what = 0; what < 6; what++) {
                Due.due("forecast", x.forecast(m, what), U);
                Due.due("place", x.place(m, 0, what), U);
                Due.due("told", x.told(m, 0, what), U);
            }
            Due.due("odd", x.odd(m, 1), U);
            Due.due("alarms", x.alarms(m, 1, 0), U);
            Due.due("ahead", x.ahead(m, 1), U);
        }
        int[] whats = {-1, 2, 6, 2147483647};
        for (int what : whats) {
            Due.due("place's what " + what, x.place(0, 0, what), U);
            Due.due("told's what " + what, x.told(0, 0, what), U);
        }
        Due.due("forecast's what", x.forecast(0, 6), U);
        Due.due("forecast's what", x.forecast(0, -1), U);
        Due.due("place 3", x.place(0, 3, 0), U);
        Due.due("place -1", x.place(0, -1, 0), U);
        Due.due("place 2", x.place(0, 2, 0) == U, false);
        Due.due("told 3", x.told(0, 3, 0), U);
        Due.due("told -1", x.told(0, -1, 0), U);
        Due.due("told 2", x.told(0, 2, 0), 1000);
        int[][] n = {{0, 1}, {-1, 1}, {31, 1}, {30, 0}, {1, 0}};
        for (int[] k : n) {
            Due.due("odd " + k[0], x.odd(0, k[0]) == U, k[1] == 1);
            Due.due("alarms " + k[0], x.alarms(0, k[0], 0) == U, k[1] == 1);
        }
        Due.due("alarms of -1", x.alarms(0, 1, -1), U);
        Due.due("alarms of 31", x.alarms(0, 1, 31), U);
        Due.due("alarms of 30", x.alarms(0, 1, 30), 0);
        Due.due("ahead 0", x.ahead(0, 0), U);
        Due.due("ahead 49", x.ahead(0, 49), U);
        Due.due("ahead 48", x.ahead(0, 48) == U, false);
    }

    /** Unknown steps ahead of the first known value are none that it tells of, but places go on. */
    private static void begins() {
        RoundRows x = made(3, 16, 0, 16, 1);
        read(x, X, X);
        Due.due("not begun", x.forecast(0, 2), 0);
        Due.due("level", x.forecast(0, 0), 0);
        Due.due("kept", x.forecast(0, 5), 0);
        Due.due("ahead", x.ahead(0, 1), U);
        Due.due("odd", x.odd(0, 5), 0);
        Due.due("alarms", x.alarms(0, 1, 0), 0);
        read(x, 7);
        Due.due("begun", x.forecast(0, 2), 1);
        Due.due("level", x.forecast(0, 0), 7000);
        Due.due("trend", x.forecast(0, 1), 0);
        Due.due("kept", x.forecast(0, 5), 0);
        Due.due("told", x.told(0, 0, 0), U);
        read(x, 9);
        Due.due("kept", x.forecast(0, 5), 1);
        Due.due("told", x.told(0, 0, 0), 7000);
        Due.due("spread of place 0", x.place(0, 0, 1), 2000);
        Due.due("spread of place 1", x.place(0, 1, 1), 0);
        Due.due("spread of place 2", x.place(0, 2, 1), 0);
        // a value of 0 is known
        x = made(3, 16, 0, 16, 1);
        read(x, 0);
        Due.due("begun by 0", x.forecast(0, 2), 1);
    }

    private static void byHand() {
        RoundRows x = made(2, 4, 8, 12, 2);
        read(x, 10, 20);
        // told 10000; level (4 * 20000 + 12 * 10000) / 16 = 12500; trend (8 * 2500) / 16 = 1250
        // swing of 1: 12 * 7500 / 16 = 5625; spread of 1: 12 * 10000 / 16 = 7500
        state("two", x, 12_500, 1250, 0, 5625, 0, 7500, 10_000, 0);
        read(x, 13);
        // told 13750; level (4 * 13000 + 12 * 13750) / 16 = 13562; trend (8 * 1062 + 8 * 1250) / 16 = 1156
        // swing of 0: 12 * -562 / 16 = -421; spread of 0: 12 * 750 / 16 = 562
        state("three", x, 13_562, 1156, -421, 5625, 562, 7500, 13_750, 0);
        read(x, X);
        // told 13562 + 1156 + 5625; level 14718
        state("four", x, 14_718, 1156, -421, 5625, 562, 7500, 20_343, 0);
        read(x, 30);
        // told 14718 + 1156 - 421 = 15453: 14547 farther than 2 * 562
        // level (4 * 30421 + 12 * 15874) / 16 = 312172 / 16 = 19510; trend (8 * 4792 + 8 * 1156) / 16 = 2974
        // swing of 0: (12 * 10490 + 4 * -421) / 16 = 124196 / 16 = 7762; spread: (12 * 14547 + 4 * 562) / 16 = 176812 / 16 = 11050
        state("five", x, 19_510, 2974, 7762, 5625, 11_050, 7500, 15_453, 1);
        Due.due("odd of 2", x.odd(0, 2), 1);
    }

    private static void state(String of, RoundRows x, int... want) {
        int[] got = {x.forecast(0, 0), x.forecast(0, 1), x.place(0, 0, 0), x.place(0, 1, 0), x.place(0, 0, 1), x.place(0, 1, 1),
            x.told(0, 0, 0), x.told(0, 0, 1)};
        String[] names = {"level", "trend", "swing of 0", "swing of 1", "spread of 0", "spread of 1", "told", "odd"};
        for (int i = 0; i < got.length; i++) {
            Due.due(of + ": " + names[i], got[i], want[i]);
        }
    }

    private static void seasons() {
        RoundRows x = made(24, 0, 0, 16, 9);
        for (int s = 0; s < 49; s++) {
            read(x, 100 + s % 24);
        }
        // the level stays at 100, so each place's swing is its own
        Due.due("level", x.forecast(0, 0), 100_000);
        for (int p = 0; p < 24; p++) {
            Due.due("swing of " + p, x.place(0, p, 0), 1000 * p);
            Due.due("ahead of " + p, x.ahead(0, 1 + (p + 23) % 24), 100_000 + 1000 * p);
        }
        Due.due("place 24", x.place(0, 24, 0), U);
        Due.due("told the latest of place 0", x.told(0, 0, 0), 100_000);
        Due.due("told the one ahead of it", x.told(0, 1, 0), 123_000);
    }

    private static void weights() {
        RoundRows x = made(2, 16, 16, 0, 1);
        read(x, 10, 13, 20);
        Due.due("level follows at once", x.forecast(0, 0), 20_000);
        Due.due("trend follows at once", x.forecast(0, 1), 7000);
        Due.due("no swing", x.place(0, 1, 0), 0);
        Due.due("no spread", x.place(0, 1, 1), 0);
        Due.due("told", x.told(0, 0, 0), 16_000);
        Due.due("never odd without a spread", x.odd(0, 30), 0);
        x = made(2, 0, 0, 0, 1);
        read(x, 10, 13, 20, 99);
        Due.due("level stays", x.forecast(0, 0), 10_000);
        Due.due("trend stays", x.forecast(0, 1), 0);
    }

    private static void odds() {
        RoundRows x = made(2, 0, 0, 16, 3);
        // the level stays at 10; each place's swing is its latest value's, its spread how far that was from what was told
        read(x, 10, 12, 10, 18, 10, 37, 10, 37);
        // place 1: 12 told 10: spread 2; 18 told 12: 6, not farther than 6; 37 told 18: 19, farther than 18
        Due.due("latest", x.told(0, 0, 1), 0);
        Due.due("odd", x.told(0, 2, 1), 1);
        Due.due("just as far", x.told(0, 4, 1), 0);
        Due.due("no spread yet", x.told(0, 6, 1), 0);
        Due.due("odd of 2", x.odd(0, 2), 0);
        Due.due("odd of 3", x.odd(0, 3), 1);
        Due.due("odd of 30", x.odd(0, 30), 1);
        Due.due("kept", x.forecast(0, 5), 7);
        int[][] want = {{1, 1, 1}, {1, 0, 7}, {2, 1, 2}, {3, 1, 3}, {4, 1, 3}, {5, 1, 3}, {7, 1, 1}, {7, 2, 0}, {8, 0, 0}, {1, 2, 0}};
        for (int[] w : want) {
            Due.due("alarms(0, " + w[0] + ", " + w[1] + ")", x.alarms(0, w[0], w[1]), w[2]);
        }
        read(x, X, X);
        Due.due("unknown ones are not odd", x.odd(0, 4), 0);
        // below what was told is odd, too
        x = made(2, 0, 0, 16, 1);
        read(x, 10, 12, 10, 9);
        Due.due("below", x.told(0, 0, 1), 1);
    }

    private static void keepsThirty() {
        RoundRows x = made(2, 16, 0, 16, 1);
        for (int s = 0; s <= 30; s++) {
            read(x, s);
        }
        Due.due("kept", x.forecast(0, 5), 30);
        Due.due("eldest", x.told(0, 29, 0), 0);
        Due.due("no more", x.told(0, 30, 0), U);
        for (int s = 31; s <= 75; s++) {
            read(x, s);
            Due.due("kept", x.forecast(0, 5), 30);
            Due.due("latest at " + s, x.told(0, 0, 0), 1000 * (s - 1));
            Due.due("eldest at " + s, x.told(0, 29, 0), 1000 * (s - 30));
            Due.due("no more at " + s, x.told(0, 30, 0), U);
        }
        Due.due("windows", x.alarms(0, 30, 0), 1);
        Due.due("windows", x.alarms(0, 29, 0), 2);
        x.read(99, 5, 0, 0, 0);
        Due.due("by one reading", x.told(0, 29, 0), 5000);
    }

    private static void aheads() {
        RoundRows x = made(3, 8, 8, 8, 1);
        read(x, 10, 30, 20, 40, 15);
        int level = x.forecast(0, 0);
        int trend = x.forecast(0, 1);
        for (int n = 1; n <= 48; n++) {
            Due.due("ahead(0, " + n + ")", x.ahead(0, n), level + n * trend + x.place(0, (4 + n) % 3, 0));
        }
        // what it told indeed, no values coming
        int[] told = new int[8];
        for (int n = 0; n < 8; n++) {
            told[n] = x.ahead(0, n + 1);
        }
        read(x, X, X, X, X, X, X, X, X);
        for (int n = 0; n < 8; n++) {
            Due.due("told of " + n, x.told(0, 7 - n, 0), told[n]);
        }
        Due.due("trend stays", x.forecast(0, 1), trend);
        Due.due("level", x.forecast(0, 0), level + 8 * trend);
    }

    private static void held() {
        RoundRows x = made(2, 16, 16, 16, 1);
        read(x, 0, 900_000);
        Due.due("trend", x.forecast(0, 1), 900_000_000);
        read(x, X);
        Due.due("level", x.forecast(0, 0), 1_800_000_000);
        Due.due("ahead is held", x.ahead(0, 1), 2_000_000_000);
        Due.due("ahead is held", x.ahead(0, 48), 2_000_000_000);
        read(x, X);
        Due.due("level is held", x.forecast(0, 0), 2_000_000_000);
        Due.due("told is held", x.told(0, 0, 0), 2_000_000_000);
        read(x, 0);
        Due.due("told is held", x.told(0, 0, 0), 2_000_000_000);
        Due.due("spread", x.place(0, 0, 1), 2_000_000_000);
        Due.due("trend is held", x.forecast(0, 1), -2_000_000_000);
        read(x, X);
        Due.due("level is held below", x.forecast(0, 0), -2_000_000_000);
        read(x, X);
        Due.due("told is held below", x.told(0, 0, 0), -2_000_000_000);
        Due.due("level is held below", x.forecast(0, 0), -2_000_000_000);
        read(x, 999_999);
        Due.due("spread is held", x.place(0, 1, 1), 2_000_000_000);
    }
}
