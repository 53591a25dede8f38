/** Promises 31 and 32: shows of rows. */
public final class ShowTest {
    private static final int U = RoundRows.UNKNOWN;
    private static final int X = -1;

    public static void main(String[] args) {
        signs();
        ranks();
        unknowns();
        cuts();
        held();
        others();
        rows();
        greatest();
        noneSuch();
        Due.finish();
    }

    /** What a formula is of a row in which a is 7, b is 2 and u is unknown. */
    private static void formula(String formula, int want) {
        RoundRows x = Due.stored("step 1; measure a gauge silence 9; measure b gauge silence 9; measure u gauge silence 9;"
                + "archive mean 1 by 3 share 0; show s = " + formula + ";");
        x.read(1, 7, 2, X, 0);
        Due.due(formula, x.show(0, 0, 0), want);
        Due.due("shows 0 of " + formula, x.shows(0, 0, 0), want == U ? 0 : 1);
        Due.due("shows 1 of " + formula, x.shows(0, 0, 1), want);
        Due.due("shows 2 of " + formula, x.shows(0, 0, 2), want);
        Due.due("shows 3 of " + formula, x.shows(0, 0, 3), want == U ? U : 0);
    }

    private static void signs() {
        formula("5", 5000);
        formula("0", 0);
        formula("9999", 9_999_000);
        formula("a", 7000);
        formula("a + b", 9000);
        formula("a - b", 5000);
        formula("b - a", -5000);
        formula("a * b", 14_000);
        formula("a / b", 3500);
        formula("(b - a) * b", -10_000);
    }

    private static void ranks() {
        formula("a + b * 3", 13_000);
        formula("a * b + 3", 17_000);
        formula("(a + b) * 3", 27_000);
        formula("3 * (a + b)", 27_000);
        formula("a - b - 1", 4000);
        formula("a - (b - 1)", 6000);
        formula("a - b + 1", 6000);
        formula("8 / 4 / 2", 1000);
        formula("8 / (4 / 2)", 4000);
        formula("8 / 4 * 2", 4000);
        formula("8 * 4 / 2", 16_000);
        formula("2 * 3 + 4 * 5 - 6 / 2", 23_000);
        formula("u or a + b", 9000);
        formula("a + u or b", 2000);
        formula("a + (u or b)", 9000);
        formula("u * 2 or b * 3", 6000);
        formula("a or b", 7000);
        formula("u or u or b", 2000);
        formula("u or b or a", 2000);
        formula("(u or b) - (a or u)", -5000);
        formula("((a + 1) * (b - 1) - (3)) / (((2)))", 2500);
    }

    private static void unknowns() {
        formula("u", U);
        formula("u + 1", U);
        formula("1 - u", U);
        formula("u * 0", U);
        formula("0 * u", U);
        formula("u / 1", U);
        formula("1 / u", U);
        formula("1 / 0", U);
        formula("0 / 0", U);
        formula("0 / 1", 0);
        formula("1 / (a - a)", U);
        formula("1 / 0 or 4", 4000);
        formula("u or u", U);
        formula("(1 or u) + u", U);
    }

    private static void cuts() {
        formula("b / 3", 666);
        formula("(0 - b) / 3", -666);
        formula("b / (0 - 3)", -666);
        formula("1 / 3 * 2", 666);
        formula("(0 - 1) / 3 * (1 / 2)", -166);
        formula("1 / 2000", 0);
        formula("1 / (1 / 2000)", U);
    }

    private static void held() {
        formula("9999 * 9999", 2_000_000_000);
        formula("(0 - 9999) * 9999", -2_000_000_000);
        formula("9999 * 201", 2_000_000_000);
        formula("9999 * 200", 1_999_800_000);
        formula("9999 * 201 - 9999", 1_990_001_000);
        formula("9999 * 200 + 9999", 2_000_000_000);
        formula("9999 * 200 + 200", 2_000_000_000);
        formula("9999 * 200 + 199", 1_999_999_000);
        formula("0 - 9999 * 200 - 9999", -2_000_000_000);
        formula("9999 * 9999 * 9999", 2_000_000_000);
        formula("9999 * 9999 * ((0 - 9999) * 9999)", -2_000_000_000);
        formula("9999 * 999 / (1 / 1000)", 2_000_000_000);
        formula("(0 - 9999 * 999) / (1 / 1000)", -2_000_000_000);
        formula("(9999 * 9999) / (9999 * 9999)", 1000);
    }

    private static void others() {
        RoundRows x = Due.stored("step 1; measure g gauge silence 9; show a = g + 1; show b = a * a; archive mean 1 by 3 share 0;"
                + "show c = b - a or 7; show d = (c + b) * a / g;");
        x.read(1, 3, 0, 0, 0);
        int[] want = {4000, 16_000, 12_000, 37_333};
        for (int s = 0; s < 4; s++) {
            Due.due("show " + s, x.show(s, 0, 0), want[s]);
        }
        x.read(1, X, 0, 0, 0);
        int[] unknown = {U, U, 7000, U};
        for (int s = 0; s < 4; s++) {
            Due.due("unknown: show " + s, x.show(s, 0, 0), unknown[s]);
            Due.due("the row ahead: show " + s, x.show(s, 0, 1), want[s]);
        }
    }

    private static void rows() {
        RoundRows x = Due.stored("step 1; measure g gauge silence 9; measure h gauge silence 9; archive most 1 by 3 share 0;"
                + "archive least 2 by 9 share 0; show s = g * 10 - h;");
        for (int n = 1; n <= 6; n++) {
            x.read(1, n, 6 - n, 0, 0);
        }
        int[][] want = {{60_000, 49_000, 38_000}, {50_000, 28_000, 6000}};
        for (int a = 0; a < 2; a++) {
            for (int i = 0; i < 3; i++) {
                Due.due("show(0, " + a + ", " + i + ")", x.show(0, a, i), want[a][i]);
            }
            Due.due("show 3", x.show(0, a, 3), U);
            Due.due("show -1", x.show(0, a, -1), U);
            Due.due("shows 0", x.shows(0, a, 0), 3);
            Due.due("shows 1", x.shows(0, a, 1), want[a][0]);
            Due.due("shows 2", x.shows(0, a, 2), want[a][2]);
            Due.due("shows 3", x.shows(0, a, 3), 0);
        }
    }

    private static void greatest() {
        RoundRows x = Due.stored("step 1; measure g gauge silence 9; archive most 1 by 9 share 0; show s = 0 - g; show t = g or 100;");
        int[] numbers = {1, 5, 5, X, 9, 1, 1, 3, X};
        for (int n : numbers) {
            x.read(1, n, 0, 0, 0);
        }
        int[][] want = {{7, -1000, -9000, 2}, {9, 100_000, 1000, 0}};
        for (int s = 0; s < 2; s++) {
            for (int what = 0; what < 4; what++) {
                Due.due("shows(" + s + ", 0, " + what + ")", x.shows(s, 0, what), want[s][what]);
            }
            Due.due("shows 4", x.shows(s, 0, 4), U);
            Due.due("shows -1", x.shows(s, 0, -1), U);
        }
        // no rows, none known
        x = Due.stored("step 2; measure g gauge silence 9; archive most 1 by 9 share 0; show s = g;");
        for (int k = 0; k < 2; k++) {
            int[] none = {0, U, U, U};
            for (int what = 0; what < 4; what++) {
                Due.due("none known: " + what, x.shows(0, 0, what), none[what]);
            }
            x.read(4, X, 0, 0, 0);
        }
    }

    private static void noneSuch() {
        RoundRows x = Due.stored("step 1; archive most 1 by 9 share 0; show s = 5;");
        x.read(2, 0, 0, 0, 0);
        Due.due("without measures", x.show(0, 0, 1), 5000);
        Due.due("without measures", x.shows(0, 0, 0), 2);
        int[][] none = {{1, 0}, {-1, 0}, {0, 1}, {0, -1}, {2147483647, 0}, {0, -2147483648}};
        for (int[] n : none) {
            Due.due("none such", x.show(n[0], n[1], 0), U);
            for (int what = 0; what < 4; what++) {
                Due.due("none such", x.shows(n[0], n[1], what), U);
            }
        }
        Due.due("no row 2", x.show(0, 0, 2), U);
        Due.due("no row -1", x.show(0, 0, -1), U);
    }
}
