/** The document's sentences of SHOWS, each with its boundary cases; promises 31 and 32. */
public final class ShowTest {
    private static final int U = RoundRows.UNKNOWN;
    private static final int INT_MOST = 2147483647;
    private static final int INT_LEAST = -2147483648;
    /** A number that makes a RATE UNKNOWN. */
    private static final int X = -1;
    private static final int HELD = 2_000_000_000;

    public static void main(String[] args) {
        thousands();
        measuresAndShows();
        sumsAndProducts();
        ranks();
        quotients();
        cutTowardsZero();
        unknownParts();
        heldEach();
        ors();
        showTells();
        showNone();
        showsTell();
        showsNone();
        Due.finish();
    }

    /** What a formula is of a ROW in which a is 7, b is 2, t a thousandth and u UNKNOWN. */
    private static void formula(String formula, int want) {
        RoundRows x = Due.stored("step 1; measure a gauge silence 1000; measure b gauge silence 1000; measure t amount silence 1000;"
                + "measure u gauge silence 1000; archive mean 1 by 1 share 0; show s = " + formula + ";");
        x.read(1000, 7, 2, 1, X);
        Due.due(formula, x.show(0, 0, 0), want);
    }

    // ---- Terms

    /** Terms: "A SHOW, of a ROW of an ARCHIVE: N is 1000 times N" */
    private static void thousands() {
        formula("0", 0);
        formula("1", 1000);
        formula("9999", 9_999_000);
        formula("0009", 9000);
    }

    /** Terms: "a MEASURE is what that ROW tells of it, a SHOW likewise" */
    private static void measuresAndShows() {
        RoundRows x = Due.stored("step 1; measure g gauge silence 9; show a = g + 1; show b = a * a; archive most 1 by 3 share 0;"
                + "archive most 2 by 3 share 0; show c = b - a or 7; show d = (c + b) * a / g;");
        Due.reads(x, 1, 9, 3, X);
        int[][] want = {{4000, 10_000, 10_000}, {16_000, 100_000, 100_000}, {12_000, 90_000, 90_000}, {37_333, 211_111, 211_111}};
        int[] unknown = {U, U, 7000, U};
        for (int s = 0; s < 4; s++) {
            Due.due("show " + s + " of the ROW of 3", x.show(s, 0, 1), want[s][0]);
            Due.due("show " + s + " of the ROW of 9", x.show(s, 0, 2), want[s][1]);
            Due.due("show " + s + " of another ARCHIVE's ROW", x.show(s, 1, 0), want[s][2]);
            Due.due("show " + s + " of an UNKNOWN ROW", x.show(s, 0, 0), unknown[s]);
        }
    }

    /** Terms: "+ and -; * is by 1000" */
    private static void sumsAndProducts() {
        formula("a + b", 9000);
        formula("a - b", 5000);
        formula("b - a", -5000);
        formula("a - a", 0);
        formula("a * b", 14_000);
        formula("a * 0", 0);
        formula("a * t", 7);
        formula("(b - a) * b", -10_000);
        formula("(b - a) * (b - a)", 25_000);
    }

    /**
     * Terms: "e = sum {or sum}. sum = term {(+ | -) term}. term = unit {(* | /) unit}."
     */
    private static void ranks() {
        formula("2 * 3 + 4 * 5 - 6 / 2", 23_000);
        formula("(a + b) * 3", 27_000);
        formula("3 * (a + b)", 27_000);
        formula("a - (b - 1)", 6000);
        formula("8 / (4 / 2)", 4000);
        formula("8 * 4 / 2", 16_000);
        formula("a + (u or b)", 9000);
        formula("((a + 1) * (b - 1) - (3)) / (((2)))", 2500);
        formula("a - b - 1", 4000);
        formula("a - b + 1", 6000);
        formula("8 / 4 / 2", 1000);
        formula("8 / 4 * 2", 4000);
        formula("a + b * 3", 13_000);
        formula("a * 3 + b", 23_000);
        formula("a + 8 / b", 11_000);
        formula("a or b + 1", 7000);
        formula("u or a + b", 9000);
        formula("a + u or b", 2000);
        formula("1 + a or b", 8000);
    }

    /** Terms: "/ is 1000 times the first by the second, UNKNOWN by 0" */
    private static void quotients() {
        formula("a / b", 3500);
        formula("0 / a", 0);
        formula("a / t", 7_000_000);
        formula("t / t", 1000);
        formula("a / 0", U);
        formula("0 / 0", U);
        formula("a / (b - 2)", U);
        formula("a / (b - 2 + t)", 7_000_000);
        formula("a / (b - 2 - t)", -7_000_000);
        // what is cut to 0 is 0
        formula("a / (t / 2)", U);
        formula("a / (t * 1)", 7_000_000);
    }

    /** Terms: "/ is cut towards 0." */
    private static void cutTowardsZero() {
        formula("b / 3", 666);
        formula("(0 - b) / 3", -666);
        formula("b / (0 - 3)", -666);
        formula("(0 - b) / (0 - 3)", 666);
        formula("1 / 3 * 2", 666);
        formula("t * (1 / 2)", 0);
        formula("(0 - t) * (1 / 2)", 0);
        formula("(0 - t) * (a - b * 2 - 1 / 2)", -2);
        formula("(0 - t) / 2", 0);
    }

    /** Terms: "UNKNOWN, if a part is" */
    private static void unknownParts() {
        formula("u", U);
        formula("(u)", U);
        for (String sign : new String[] {"+", "-", "*", "/"}) {
            formula("u " + sign + " 1", U);
            formula("1 " + sign + " u", U);
            formula("u " + sign + " u", U);
            formula("a " + sign + " b", sign.equals("+") ? 9000 : sign.equals("-") ? 5000 : sign.equals("*") ? 14_000 : 3500);
        }
        formula("u * 0", U);
        formula("0 * u", U);
        formula("0 / u", U);
        formula("u / 0", U);
        formula("1 + 2 * (3 - (u + 4))", U);
        formula("1 / 0 + 1", U);
    }

    /** Terms: "each of these is held within -2,000,000,000 and 2,000,000,000" */
    private static void heldEach() {
        formula("9999 * 200 + 199", 1_999_999_000);
        formula("9999 * 200 + 200 - t", 1_999_999_999);
        formula("9999 * 200 + 200", HELD);
        formula("9999 * 200 + 200 + t", HELD);
        formula("9999 * 200 + 201 - 1", HELD - 1000);
        formula("0 - 9999 * 200 - 200 + t", -1_999_999_999);
        formula("0 - 9999 * 200 - 200", -HELD);
        formula("0 - 9999 * 200 - 200 - t", -HELD);
        formula("0 - 9999 * 200 - 201 + 1", -HELD + 1000);
        formula("2000 * 1000", HELD);
        formula("2000 * 1000 * (1 + t)", HELD);
        formula("2000 * 999", 1_998_000_000);
        formula("9999 * 9999", HELD);
        formula("(0 - 9999) * 9999", -HELD);
        formula("9999 * 9999 * 9999", HELD);
        formula("9999 * 9999 * ((0 - 9999) * 9999)", -HELD);
        formula("2000 / t", HELD);
        formula("2001 / t", HELD);
        formula("(2000 - t) / t", 1_999_999_000);
        formula("(0 - 2001) / t", -HELD);
        formula("(9999 * 9999) / t / (9999 * 9999)", 1000);
        // an UNKNOWN one is no number to be held
        formula("9999 * 9999 + u", U);
        formula("9999 * 9999 / 0", U);
        formula("u or 9999 * 9999", HELD);
    }

    /** Terms: "a or b: a, if it is known, else b." */
    private static void ors() {
        formula("a or b", 7000);
        formula("u or b", 2000);
        formula("a or u", 7000);
        formula("u or u", U);
        formula("u or u or b", 2000);
        formula("u or b or a", 2000);
        formula("0 or a", 0);
        formula("1 / 0 or 4", 4000);
        formula("u * 2 or b * 3", 6000);
        formula("(u or b) - (a or u)", -5000);
        formula("(1 or u) + u", U);
        formula("a or 1 / 0", 7000);
        // what is held is known
        formula("0 - 9999 * 9999 or 4", -HELD);
    }

    // ---- Promises 31 and 32

    /** Promise 31: "A SHOW of the i-th latest ROW of an ARCHIVE" */
    private static void showTells() {
        RoundRows x = Due.stored("step 1; measure g gauge silence 9; measure h gauge silence 9; archive most 1 by 3 share 0;"
                + "archive least 2 by 9 share 0; show s = g * 10 - h; show t = h;");
        for (int n = 1; n <= 6; n++) {
            x.read(1, n, 6 - n, 0, 0);
        }
        int[][][] want = {{{60_000, 49_000, 38_000, U}, {50_000, 28_000, 6000, U}}, {{0, 1000, 2000, U}, {0, 2000, 4000, U}}};
        for (int s = 0; s < 2; s++) {
            for (int a = 0; a < 2; a++) {
                for (int i = 0; i < 4; i++) {
                    Due.due("show(" + s + ", " + a + ", " + i + ")", x.show(s, a, i), want[s][a][i]);
                }
            }
        }
    }

    /** Promise 31: "UNKNOWN, too, if there is none such." */
    private static void showNone() {
        RoundRows x = Due.stored("step 1; archive most 1 by 2 share 0; show s = 5; show t = 6;");
        Due.due("no ROW", x.show(0, 0, 0), U);
        x.read(3, 0, 0, 0, 0);
        Due.due("the eldest ROW, the last SHOW", x.show(1, 0, 1), 6000);
        for (int i : new int[] {-1, 2, 3, INT_MOST, INT_LEAST}) {
            Due.due("show(0, 0, " + i + ")", x.show(0, 0, i), U);
        }
        for (int s : new int[] {-1, 2, 3, 4, INT_MOST, INT_LEAST}) {
            Due.due("show(" + s + ", 0, 0)", x.show(s, 0, 0), U);
        }
        for (int a : new int[] {-1, 1, 2, 4, INT_MOST, INT_LEAST}) {
            Due.due("show(0, " + a + ", 0)", x.show(0, a, 0), U);
        }
    }

    /**
     * Promise 32: "Of a SHOW of all ROWS of an ARCHIVE that are kept what 0: how many are known, 1: the greatest, 2: the least, 3: the
     * first ROW (from the latest one on) that is the greatest"
     */
    private static void showsTell() {
        shows("one", new int[] {1, 4000, 4000, 0}, 4);
        shows("the greatest last", new int[] {3, 9000, 1000, 0}, 4, 1, 9);
        shows("the greatest first", new int[] {3, 9000, 1000, 2}, 9, 4, 1);
        shows("two greatest: the first from the latest on", new int[] {4, 9000, 1000, 1}, 9, 1, 9, 4);
        shows("some UNKNOWN", new int[] {2, 9000, 4000, 1}, X, 4, X, 9, X);
        shows("those kept alone", new int[] {5, 5000, 1000, 0}, 9, 0, 1, 2, 3, 4, 5);
        shows("the greatest UNKNOWN ahead of it", new int[] {1, 0, 0, 3}, X, 0, X, X, X);
    }

    private static void shows(String of, int[] want, int... numbers) {
        RoundRows x = Due.stored("step 1; measure g gauge silence 9; archive most 1 by 5 share 0; show s = g; show t = 0 - g;");
        Due.reads(x, 1, numbers);
        for (int what = 0; what < 4; what++) {
            Due.due(of + ": shows(0, 0, " + what + ")", x.shows(0, 0, what), want[what]);
        }
        Due.due(of + ": greatest below 0", x.shows(1, 0, 1), -want[2]);
        Due.due(of + ": least below 0", x.shows(1, 0, 2), -want[1]);
    }

    /** Promise 32: "UNKNOWN if there is none such (of 1, 2, 3: none is known), or for another what." */
    private static void showsNone() {
        RoundRows x = Due.stored("step 1; measure g gauge silence 9; archive most 1 by 2 share 0; show s = g; show t = 6;");
        int[] none = {0, U, U, U};
        int[] known = {1, 5000, 5000, 0};
        for (int what = 0; what < 4; what++) {
            Due.due("no ROWS: " + what, x.shows(0, 0, what), none[what]);
            Due.due("no ROWS, though it is a number: " + what, x.shows(1, 0, what), none[what]);
        }
        Due.reads(x, 1, X, X);
        for (int what = 0; what < 4; what++) {
            Due.due("none is known: " + what, x.shows(0, 0, what), none[what]);
        }
        x.read(1, 5, 0, 0, 0);
        for (int what = 0; what < 4; what++) {
            Due.due("one is known: " + what, x.shows(0, 0, what), known[what]);
            for (int s : new int[] {-1, 2, 3, 4, INT_MOST, INT_LEAST}) {
                Due.due("shows(" + s + ", 0, " + what + ")", x.shows(s, 0, what), U);
            }
            for (int a : new int[] {-1, 1, 2, 4, INT_MOST, INT_LEAST}) {
                Due.due("shows(0, " + a + ", " + what + ")", x.shows(0, a, what), U);
            }
        }
        for (int what : new int[] {-1, 4, INT_MOST, INT_LEAST}) {
            Due.due("shows' what " + what, x.shows(0, 0, what), U);
        }
    }
}
