/** The document's sentences of ARCHIVES and their ROWS, each with its boundary cases; promises 13 to 24 and 35. */
public final class ArchiveTest {
    private static final int U = RoundRows.UNKNOWN;
    private static final int INT_MOST = 2147483647;
    private static final int INT_LEAST = -2147483648;
    /** A number that makes a RATE UNKNOWN. */
    private static final int X = -1;
    /** No ARCHIVE and no MEASURE of a text with one of each, the neighbours first. */
    private static final int[] NONE_SUCH = {1, -1, 2, 3, 4, INT_MOST, INT_LEAST};

    public static void main(String[] args) {
        perSteps();
        rowsOver();
        means();
        mostAndLeast();
        latest();
        shareOfUnknown();
        latestRows();
        archiveTells();
        archiveNone();
        rowTells();
        rowNone();
        rowAtTells();
        rowAtNone();
        overWholly();
        overTells();
        overNone();
        shareTells();
        shareNone();
        smoothTells();
        smoothNone();
        alikeTells();
        alikeNone();
        leftTells();
        leftNone();
        gapTells();
        gapNone();
        totalTells();
        totalNone();
        riseTells();
        riseNone();
        bestReaches();
        bestReachesNot();
        bestNone();
        law();
        Due.finish();
    }

    private static RoundRows made(String archives) {
        return Due.stored("step 1; measure g gauge silence 1000;" + archives);
    }

    /** A STEP of one unit, and an ARCHIVE with a ROW of each STEP, so many of which are kept: the numbers are the ROWS. */
    private static RoundRows kept(int rows, int... numbers) {
        RoundRows x = made("archive most 1 by " + rows + " share 0;");
        Due.reads(x, 1, numbers);
        return x;
    }

    private static void rows(String of, RoundRows x, int archive, int... want) {
        for (int i = 0; i < want.length; i++) {
            Due.due(of + ": row(" + archive + ", 0, " + i + ")", x.row(archive, 0, i), want[i]);
        }
        Due.due(of + ": kept", x.archive(archive, 4), want.length);
    }

    // ---- Terms

    /** Terms: "An ARCHIVE has, for each MEASURE, ROWS of PER STEPS each" */
    private static void perSteps() {
        for (int per = 1; per <= 12; per += per == 2 ? 9 : 1) {
            RoundRows x = Due.stored("step 2; measure g gauge silence 1000; measure h gauge silence 1000; archive most " + per + " by 30 share 0;");
            for (int s = 1; s <= 2 * per; s++) {
                x.read(2, s, 100 - s, 0, 0);
            }
            Due.due("per " + per + ": greatest of the latest", x.row(0, 0, 0), 2000 * per);
            Due.due("per " + per + ": greatest of the one ahead", x.row(0, 0, 1), 1000 * per);
            Due.due("per " + per + ": of the other MEASURE", x.row(0, 1, 0), 1000 * (100 - per - 1));
            Due.due("per " + per + ": of the other MEASURE", x.row(0, 1, 1), 99_000);
        }
    }

    /** Terms: "a ROW is over with a STEP whose number (from 1 on) is a multiple of PER." */
    private static void rowsOver() {
        RoundRows x = Due.stored("step 5; measure g gauge silence 1000; archive mean 3 by 9 share 0;");
        int[][] want = {{14, 0}, {1, 1}, {14, 1}, {1, 2}, {29, 3}, {1, 4}, {45, 7}};
        for (int[] w : want) {
            x.read(w[0], 1, 0, 0, 0);
            Due.due("rows over at " + x.about(5), x.archive(0, 4), w[1]);
        }
    }

    /**
     * Terms: "It tells of the known VALUES of its STEPS, by how: mean: VALUES times the units by which each was reckoned, together, by
     * these units together"
     */
    private static void means() {
        RoundRows x = Due.stored("step 5; measure g gauge silence 9; archive mean 2 by 9 share 9;");
        x.read(2, X, 0, 0, 0);
        x.read(3, 10, 0, 0, 0);
        x.read(5, 2, 0, 0, 0);
        Due.due("3 units of 10, 5 of 2", x.row(0, 0, 0), (3 * 10_000 + 5 * 2000) / 8);
        // units of a VALUE that is UNKNOWN do not count, though two were known
        x.read(3, X, 0, 0, 0);
        x.read(2, 999, 0, 0, 0);
        x.read(5, 2, 0, 0, 0);
        Due.due("a STEP of two UNKNOWN", x.row(0, 0, 0), 2000);
        x = Due.stored("step 5; measure g gauge silence 9; archive mean 3 by 9 share 4;");
        x.read(3, X, 0, 0, 0);
        x.read(2, 999, 0, 0, 0);
        x.read(1, X, 0, 0, 0);
        x.read(4, 10, 0, 0, 0);
        x.read(5, 1, 0, 0, 0);
        Due.due("a STEP of three UNKNOWN", x.row(0, 0, 0), (4 * 10_000 + 5 * 1000) / 9);
        // VALUES are cut before they are brought together: 2.666.. and 0 by 3 units each
        x = Due.stored("step 3; measure g gauge silence 9; archive mean 2 by 9 share 0;");
        Due.reads(x, 1, 4, 4, 0, 0, 0, 0);
        Due.due("2666 and 0", x.row(0, 0, 0), 1333);
        Due.reads(x, 1, 1, 1, 0, 1, 0, 0);
        Due.due("666 and 333", x.row(0, 0, 0), 499);
    }

    /** Terms: "most, least: the greatest, the least" */
    private static void mostAndLeast() {
        RoundRows x = made("archive most 3 by 9 share 9; archive least 3 by 9 share 9;");
        Due.reads(x, 1, 5, 9, 7, 9, 5, 0, 0, 0, 0, X, 4, X, 4, X, 6);
        rows("most", x, 0, 6000, 4000, 0, 9000, 9000);
        rows("least", x, 1, 4000, 4000, 0, 0, 5000);
    }

    /** Terms: "latest: that of the latest STEP that is known." */
    private static void latest() {
        RoundRows x = made("archive latest 3 by 9 share 7;");
        Due.reads(x, 1, 5, 9, 7, 5, 9, X, 5, X, X, X, 0, X, X, X, X);
        rows("latest", x, 0, U, 0, 5000, 9000, 7000);
    }

    /** Terms: "UNKNOWN, if 10 times as many STEPS as are not known are more than share times PER, or none is known." */
    private static void shareOfUnknown() {
        for (int per = 1; per <= 12; per++) {
            for (int share = 0; share <= 9; share++) {
                int allowed = share * per / 10;
                for (int unknown = allowed; unknown <= allowed + 1; unknown++) {
                    RoundRows x = made("archive latest " + per + " by 2 share " + share + ";");
                    for (int s = 0; s < per; s++) {
                        x.read(1, s < unknown ? X : 4, 0, 0, 0);
                    }
                    Due.due("PER " + per + ", share " + share + ", unknown " + unknown, x.row(0, 0, 0), unknown == allowed ? 4000 : U);
                }
            }
            RoundRows x = made("archive latest " + per + " by 2 share 9;");
            x.read(per, X, 0, 0, 0);
            Due.due("none is known of " + per, x.row(0, 0, 0), U);
        }
    }

    /** Terms: "The latest ROWS are kept; older ones go." */
    private static void latestRows() {
        for (int rows : new int[] {1, 2, 29, 30}) {
            RoundRows x = made("archive latest 1 by " + rows + " share 0;");
            for (int s = 1; s <= 2 * rows + 3; s++) {
                x.read(1, s, 0, 0, 0);
                int many = Math.min(s, rows);
                Due.due("kept of " + s + " by " + rows, x.archive(0, 4), many);
                Due.due("the latest", x.row(0, 0, 0), 1000 * s);
                Due.due("the eldest of " + s + " by " + rows, x.row(0, 0, many - 1), 1000 * (s - many + 1));
                Due.due("one older of " + s + " by " + rows, x.row(0, 0, many), U);
            }
            x.read(3 * rows + 1, 7, 0, 0, 0);
            Due.due("the eldest behind a long READING", x.row(0, 0, rows - 1), 7000);
            Due.due("one older", x.row(0, 0, rows), U);
        }
    }

    // ---- Promises 13 to 16

    /**
     * Promise 13: "Of an ARCHIVE what 0: how (0 mean, 1 most, 2 least, 3 latest), 1: PER, 2: ROWS, 3: share, 4: how many ROWS are kept,
     * 5: the TIME at which the latest of these was over (NONE: none is kept), 6: STEPS that are over of the ROW that is not."
     */
    private static void archiveTells() {
        RoundRows x = Due.stored("step 5; archive mean 12 by 30 share 9; archive most 1 by 2 share 0; archive least 3 by 1 share 4;"
                + "archive latest 2 by 7 share 1;");
        archives(x, new int[][] {{0, 12, 30, 9, 0, -1, 0}, {1, 1, 2, 0, 0, -1, 0}, {2, 3, 1, 4, 0, -1, 0}, {3, 2, 7, 1, 0, -1, 0}});
        x.read(4, 0, 0, 0, 0);
        archives(x, new int[][] {{0, 12, 30, 9, 0, -1, 0}, {1, 1, 2, 0, 0, -1, 0}, {2, 3, 1, 4, 0, -1, 0}, {3, 2, 7, 1, 0, -1, 0}});
        x.read(10, 0, 0, 0, 0);
        archives(x, new int[][] {{0, 12, 30, 9, 0, -1, 2}, {1, 1, 2, 0, 2, 10, 0}, {2, 3, 1, 4, 0, -1, 2}, {3, 2, 7, 1, 1, 10, 0}});
        x.read(1, 0, 0, 0, 0);
        archives(x, new int[][] {{0, 12, 30, 9, 0, -1, 3}, {1, 1, 2, 0, 2, 15, 0}, {2, 3, 1, 4, 1, 15, 0}, {3, 2, 7, 1, 1, 10, 1}});
        x.read(44, 0, 0, 0, 0);
        archives(x, new int[][] {{0, 12, 30, 9, 0, -1, 11}, {1, 1, 2, 0, 2, 55, 0}, {2, 3, 1, 4, 1, 45, 2}, {3, 2, 7, 1, 5, 50, 1}});
        x.read(1, 0, 0, 0, 0);
        archives(x, new int[][] {{0, 12, 30, 9, 1, 60, 0}, {1, 1, 2, 0, 2, 60, 0}, {2, 3, 1, 4, 1, 60, 0}, {3, 2, 7, 1, 6, 60, 0}});
    }

    private static void archives(RoundRows x, int[][] want) {
        for (int a = 0; a < want.length; a++) {
            for (int what = 0; what < 7; what++) {
                Due.due("at " + x.about(5) + ": archive(" + a + ", " + what + ")", x.archive(a, what), want[a][what]);
            }
        }
    }

    /** Promise 13: "NONE if there is none such, or for another what." */
    private static void archiveNone() {
        RoundRows x = kept(5, 1, 2, 3);
        Due.due("what 6", x.archive(0, 6), 0);
        for (int what : new int[] {-1, 7, INT_MOST, INT_LEAST}) {
            Due.due("what " + what, x.archive(0, what), -1);
        }
        for (int a : NONE_SUCH) {
            for (int what = 0; what < 7; what++) {
                Due.due("archive(" + a + ", " + what + ")", x.archive(a, what), -1);
            }
        }
    }

    /** Promise 14: "What the i-th latest ROW (0 the latest) tells of a MEASURE" */
    private static void rowTells() {
        RoundRows x = Due.stored("step 1; measure g gauge silence 9; measure h gauge silence 9; archive most 1 by 3 share 0;"
                + "archive most 2 by 3 share 0;");
        for (int s = 1; s <= 5; s++) {
            x.read(1, s, 10 * s, 0, 0);
        }
        int[][][] want = {{{5000, 4000, 3000}, {50_000, 40_000, 30_000}}, {{4000, 2000, U}, {40_000, 20_000, U}}};
        for (int a = 0; a < 2; a++) {
            for (int m = 0; m < 2; m++) {
                for (int i = 0; i < 3; i++) {
                    Due.due("row(" + a + ", " + m + ", " + i + ")", x.row(a, m, i), want[a][m][i]);
                }
            }
        }
    }

    /** Promise 14: "UNKNOWN, too, if there is none such." */
    private static void rowNone() {
        RoundRows x = kept(3, 1, 2, 3, 4);
        Due.due("the eldest kept", x.row(0, 0, 2), 2000);
        for (int i : new int[] {-1, 3, 4, 30, INT_MOST, INT_LEAST}) {
            Due.due("row(0, 0, " + i + ")", x.row(0, 0, i), U);
        }
        for (int n : NONE_SUCH) {
            Due.due("row(" + n + ", 0, 0)", x.row(n, 0, 0), U);
            Due.due("row(0, " + n + ", 0)", x.row(0, n, 0), U);
        }
        x = kept(3);
        Due.due("none is over", x.row(0, 0, 0), U);
        Due.due("a row of what is unknown", kept(3, X).row(0, 0, 0), U);
    }

    /** Promise 15: "The i-th latest ROW that is kept and whose units of TIME hold one (a TIME t is the last of t - 1 to t)" */
    private static void rowAtTells() {
        RoundRows x = Due.stored("step 5; archive mean 2 by 3 share 0;");
        x.read(49, 0, 0, 0, 0);
        // kept: 10 to 20, 20 to 30, 30 to 40
        int[][] want = {{10, -1}, {11, 2}, {15, 2}, {20, 2}, {21, 1}, {30, 1}, {31, 0}, {40, 0}, {41, -1}, {49, -1}, {50, -1}};
        for (int[] w : want) {
            Due.due("rowAt(0, " + w[0] + ")", x.rowAt(0, w[0]), w[1]);
        }
        x = Due.stored("step 5; archive mean 2 by 3 share 0;");
        x.read(10, 0, 0, 0, 0);
        Due.due("TIME 0 is in none", x.rowAt(0, 0), -1);
        Due.due("TIME 1 is in the first", x.rowAt(0, 1), 0);
    }

    /** Promise 15: "NONE if there is none such." */
    private static void rowAtNone() {
        RoundRows x = Due.stored("step 1; archive mean 1 by 3 share 0;");
        Due.due("none is over", x.rowAt(0, 0), -1);
        Due.due("none is over", x.rowAt(0, 1), -1);
        x.read(1, 0, 0, 0, 0);
        Due.due("one is over", x.rowAt(0, 1), 0);
        for (int t : new int[] {-1, 0, 2, INT_MOST, INT_LEAST}) {
            Due.due("rowAt(0, " + t + ")", x.rowAt(0, t), -1);
        }
        for (int a : NONE_SUCH) {
            Due.due("rowAt(" + a + ", 1)", x.rowAt(a, 1), -1);
        }
    }

    /** Promise 16: "Of ROWS of an ARCHIVE for a MEASURE that lie wholly from a TIME to another one what 0: how many are kept" */
    private static void overWholly() {
        RoundRows x = Due.stored("step 5; measure g gauge silence 99; archive most 2 by 3 share 0;");
        Due.reads(x, 10, 1, 2, 3, 4);
        // kept: 10 to 20, 20 to 30, 30 to 40
        int[][] want = {{10, 40, 3}, {11, 40, 2}, {10, 39, 2}, {9, 41, 3}, {20, 30, 1}, {21, 30, 0}, {20, 29, 0}, {19, 31, 1}, {0, 10, 0},
            {0, 19, 0}, {0, 20, 1}, {30, 20, 0}, {40, 10, 0}, {30, 39, 0}, {31, 50, 0}, {40, 50, 0}, {20, 20, 0},
            {INT_LEAST, INT_MOST, 3}, {INT_MOST, INT_LEAST, 0}, {INT_LEAST, 20, 1}, {30, INT_MOST, 1}};
        for (int[] w : want) {
            Due.due("over(0, 0, " + w[0] + ", " + w[1] + ", 0)", x.over(0, 0, w[0], w[1], 0), w[2]);
        }
    }

    /**
     * Promise 16: "1: how many of these are known; of the known ones 2: the mean (by how many they are), 3: the greatest, 4: the least;
     * 5: units of TIME of those that are not known."
     */
    private static void overTells() {
        RoundRows x = Due.stored("step 5; measure g gauge silence 99; archive most 2 by 5 share 0;");
        Due.reads(x, 10, 9, 4, X, 6, 1, 4);
        int[][] want = {
            // from, to, known, mean, greatest, least, units of the unknown
            {10, 60, 4, 3750, 6000, 1000, 10},
            {0, 60, 4, 3750, 6000, 1000, 10},
            {10, 30, 1, 4000, 4000, 4000, 10},
            {20, 30, 0, U, U, U, 10},
            {30, 50, 2, 3500, 6000, 1000, 0},
            {40, 60, 2, 2500, 4000, 1000, 0},
            {0, 10, 0, U, U, U, 0},
        };
        for (int[] w : want) {
            for (int what = 1; what < 6; what++) {
                Due.due("over(0, 0, " + w[0] + ", " + w[1] + ", " + what + ")", x.over(0, 0, w[0], w[1], what), w[1 + what]);
            }
        }
        // the mean is by how many ROWS they are, whatever units are known of each
        x = Due.stored("step 5; measure g gauge silence 99; archive mean 1 by 5 share 0;");
        x.read(2, X, 0, 0, 0);
        x.read(3, 1, 0, 0, 0);
        x.read(5, 2, 0, 0, 0);
        Due.due("1 and 2", x.over(0, 0, 0, 10, 2), 1500);
        x.read(5, 2, 0, 0, 0);
        Due.due("1, 2 and 2, cut", x.over(0, 0, 0, 15, 2), 1666);
    }

    /** Promise 16: "UNKNOWN if there is none such (also: none is known, of 2, 3, 4), or for another what." */
    private static void overNone() {
        RoundRows x = kept(5, 1, X, 3);
        int[] known = {3, 2, 2000, 3000, 1000, 1};
        int[] unknown = {1, 0, U, U, U, 1};
        int[] none = {0, 0, U, U, U, 0};
        for (int what = 0; what < 6; what++) {
            Due.due("known: " + what, x.over(0, 0, 0, 3, what), known[what]);
            Due.due("none is known: " + what, x.over(0, 0, 1, 2, what), unknown[what]);
            Due.due("none lies there: " + what, x.over(0, 0, 3, 3, what), none[what]);
            for (int n : NONE_SUCH) {
                Due.due("over(" + n + ", 0, .. " + what + ")", x.over(n, 0, 0, 3, what), U);
                Due.due("over(0, " + n + ", .. " + what + ")", x.over(0, n, 0, 3, what), U);
            }
        }
        for (int what : new int[] {-1, 6, INT_MOST, INT_LEAST}) {
            Due.due("over's what " + what, x.over(0, 0, 0, 3, what), U);
        }
        Due.due("no rows are over", kept(5).over(0, 0, 0, 9, 0), 0);
    }

    // ---- Promises 17 to 21

    /**
     * Promise 17: "The least known ROW of a MEASURE that so many of 100 (0 .. 100) of the known ones at least are no greater than"
     */
    private static void shareTells() {
        RoundRows x = kept(8, 100, 9, X, 4, 7, 4, X, 2, X);
        // known: 2 4 4 7 9
        int[][] want = {{0, 2}, {1, 2}, {20, 2}, {21, 4}, {60, 4}, {61, 7}, {80, 7}, {81, 9}, {100, 9}};
        for (int[] w : want) {
            Due.due("share(0, 0, " + w[0] + ")", x.share(0, 0, w[0]), 1000 * w[1]);
        }
        // of three: 33 of 100 are one ROW, 34 are two, 66 two, 67 three
        x = kept(3, 8, 5, 6);
        int[][] third = {{0, 5}, {33, 5}, {34, 6}, {66, 6}, {67, 8}, {100, 8}};
        for (int[] w : third) {
            Due.due("share(0, 0, " + w[0] + ") of three", x.share(0, 0, w[0]), 1000 * w[1]);
        }
        // of one and of thirty
        x = kept(30, 5);
        Due.due("0 of one", x.share(0, 0, 0), 5000);
        Due.due("100 of one", x.share(0, 0, 100), 5000);
        for (int s = 1; s <= 29; s++) {
            x.read(1, 30 - s, 0, 0, 0);
        }
        Due.due("10 of thirty: 3", x.share(0, 0, 10), 3000);
        Due.due("11 of thirty: 4", x.share(0, 0, 11), 4000);
        Due.due("0 is a ROW like any other", kept(3, 0, 1).share(0, 0, 50), 0);
        Due.due("the greatest is, too", kept(3, 999_999).share(0, 0, 50), 999_999_000);
    }

    /** Promise 17: "UNKNOWN if none is known, or there are none such." */
    private static void shareNone() {
        Due.due("no rows", kept(3).share(0, 0, 50), U);
        Due.due("none is known", kept(3, X, X).share(0, 0, 50), U);
        Due.due("the known one is gone", kept(2, 5, X, X).share(0, 0, 50), U);
        RoundRows x = kept(3, X, X, 5);
        Due.due("one is known", x.share(0, 0, 50), 5000);
        for (int hundredths : new int[] {-1, 101, INT_MOST, INT_LEAST}) {
            Due.due("share(0, 0, " + hundredths + ")", x.share(0, 0, hundredths), U);
        }
        for (int n : NONE_SUCH) {
            Due.due("share(" + n + ", 0, 50)", x.share(n, 0, 50), U);
            Due.due("share(0, " + n + ", 50)", x.share(0, n, 50), U);
        }
    }

    /**
     * Promise 18: "The mean of the known ones of the i-th latest ROW and of the n - 1 (n 1 .. 30) ahead of it, as far as these are kept"
     */
    private static void smoothTells() {
        RoundRows x = kept(6, 50, 9, 4, X, 6, 1, X);
        // the latest first: X 1 6 X 4 9
        int[][] want = {{2, 0, 1000}, {3, 0, 3500}, {4, 0, 3500}, {5, 0, 3666}, {6, 0, 5000}, {7, 0, 5000}, {30, 0, 5000}, {1, 1, 1000},
            {2, 1, 3500}, {2, 3, 4000}, {2, 4, 6500}, {3, 4, 6500}, {30, 4, 6500}, {1, 5, 9000}, {30, 5, 9000}};
        for (int[] w : want) {
            Due.due("smooth(0, 0, " + w[0] + ", " + w[1] + ")", x.smooth(0, 0, w[0], w[1]), w[2]);
        }
        x = made("archive latest 1 by 30 share 0;");
        for (int s = 1; s <= 31; s++) {
            x.read(1, s, 0, 0, 0);
        }
        Due.due("thirty of thirty: 2 to 31", x.smooth(0, 0, 30, 0), 16_500);
        Due.due("29 of thirty: 3 to 31", x.smooth(0, 0, 29, 0), 17_000);
        Due.due("the eldest", x.smooth(0, 0, 30, 29), 2000);
    }

    /** Promise 18: "UNKNOWN if none is known, or there are none such." */
    private static void smoothNone() {
        RoundRows x = kept(6, 9, 4, X, X, 6, X);
        int[][] want = {{1, 0, U}, {2, 0, 6000}, {1, 2, U}, {2, 2, U}, {3, 2, 4000}, {0, 1, U}, {-1, 1, U}, {1, 1, 6000}, {30, 1, 6333},
            {31, 1, U}, {INT_MOST, 1, U}, {INT_LEAST, 1, U}, {1, 5, 9000}, {1, 6, U}, {30, 6, U}, {30, -1, U}, {2, -1, U}, {30, INT_MOST, U},
            {30, INT_LEAST, U}};
        for (int[] w : want) {
            Due.due("smooth(0, 0, " + w[0] + ", " + w[1] + ")", x.smooth(0, 0, w[0], w[1]), w[2]);
        }
        for (int n : NONE_SUCH) {
            Due.due("smooth(" + n + ", 0, 2, 0)", x.smooth(n, 0, 2, 0), U);
            Due.due("smooth(0, " + n + ", 2, 0)", x.smooth(0, n, 2, 0), U);
        }
        Due.due("no rows", kept(3).smooth(0, 0, 1, 0), U);
    }

    /**
     * Promise 19: "Of ROWS that are kept, but the eldest, in how many two MEASURES both told more than in the ROW ahead, or both less
     * (all four known)"
     */
    private static void alikeTells() {
        int[][][] cases = {
            // the two numbers of each ROW, the eldest first; then how many
            {{1, 1}, {2, 2}, {1}}, {{2, 2}, {1, 1}, {1}}, {{1, 2}, {2, 1}, {0}}, {{1, 1}, {1, 1}, {0}}, {{1, 1}, {1, 2}, {0}},
            {{1, 1}, {2, 1}, {0}}, {{1, X}, {2, 2}, {0}}, {{X, 1}, {2, 2}, {0}}, {{1, 1}, {X, 2}, {0}}, {{1, 1}, {2, X}, {0}},
            {{1, 1}, {2, 5}, {3, 9}, {2}}, {{1, 1}, {2, 5}, {1, 4}, {2}}, {{1, 1}, {X, X}, {2, 2}, {0}}, {{1, 1}, {0}}, {{0}},
            // three are kept: what the eldest was to the one ahead of it is gone
            {{1, 1}, {2, 2}, {3, 3}, {4, 4}, {2}}, {{1, 1}, {2, 2}, {3, 3}, {3, 3}, {1}},
        };
        for (int k = 0; k < cases.length; k++) {
            RoundRows x = Due.stored("step 1; measure g gauge silence 9; measure h gauge silence 9; archive most 1 by 3 share 0;");
            int last = cases[k].length - 1;
            for (int r = 0; r < last; r++) {
                x.read(1, cases[k][r][0], cases[k][r][1], 0, 0);
            }
            Due.due("alike, case " + k, x.alike(0, 0, 1), cases[k][last][0]);
            Due.due("alike, the other way, case " + k, x.alike(0, 1, 0), cases[k][last][0]);
        }
    }

    /** Promise 19: "NONE if there are none such." */
    private static void alikeNone() {
        RoundRows x = kept(3, 1, 2, 3);
        Due.due("itself", x.alike(0, 0, 0), 2);
        for (int n : NONE_SUCH) {
            Due.due("alike(" + n + ", 0, 0)", x.alike(n, 0, 0), -1);
            Due.due("alike(0, " + n + ", 0)", x.alike(0, n, 0), -1);
            Due.due("alike(0, 0, " + n + ")", x.alike(0, 0, n), -1);
        }
        Due.due("no rows: there are none alike", kept(3).alike(0, 0, 0), 0);
    }

    /** Promise 20: "In how many units of TIME the ROW that is not over will be" */
    private static void leftTells() {
        RoundRows x = Due.stored("step 5; archive most 3 by 7 share 0; archive most 1 by 1 share 0; archive most 12 by 1 share 0;");
        int[][] want = {{0, 15, 5, 60}, {1, 14, 4, 59}, {3, 11, 1, 56}, {1, 10, 5, 55}, {9, 1, 1, 46}, {1, 15, 5, 45}, {44, 1, 1, 1}, {1, 15, 5, 60}};
        for (int[] w : want) {
            x.read(w[0], 0, 0, 0, 0);
            for (int a = 0; a < 3; a++) {
                Due.due("left(" + a + ") at " + x.about(5), x.left(a), w[1 + a]);
            }
        }
    }

    /** Promise 20: "NONE if there is no such ARCHIVE." */
    private static void leftNone() {
        RoundRows x = kept(3);
        Due.due("the last one", x.left(0), 1);
        for (int a : NONE_SUCH) {
            Due.due("left(" + a + ")", x.left(a), -1);
        }
        Due.due("of no text", new RoundRows().left(0), -1);
    }

    /**
     * Promise 21: "The most ROWS one behind another that are kept and UNKNOWN for a MEASURE (what 0), of like many the latest: the latest
     * ROW of these (1; NONE: none is)."
     */
    private static void gapTells() {
        gap("no rows", kept(5), 0, -1);
        gap("none unknown", kept(5, 1, 2, 3), 0, -1);
        gap("the latest", kept(5, 1, 2, X), 1, 0);
        gap("the eldest", kept(5, X, 1, 2), 1, 2);
        gap("all", kept(5, X, X, X, X, X), 5, 0);
        gap("one gone", kept(5, X, X, X, X, X, 1), 4, 1);
        gap("of like many the latest", kept(9, X, X, 1, X, X, 1, X, 1), 2, 3);
        gap("one more is more", kept(9, X, X, X, 1, X, X, 1, X, 1), 3, 6);
        gap("those kept alone", kept(4, X, X, X, 1, X, 1), 1, 1);
        gap("0 is known", kept(4, 0, X, 0), 1, 1);
    }

    private static void gap(String of, RoundRows x, int most, int latest) {
        Due.due(of + ": most", x.gap(0, 0, 0), most);
        Due.due(of + ": latest", x.gap(0, 0, 1), latest);
    }

    /** Promise 21: "NONE if there are none such, or for another what." */
    private static void gapNone() {
        RoundRows x = kept(3, X, X, 1);
        for (int what : new int[] {-1, 2, INT_MOST, INT_LEAST}) {
            Due.due("gap's what " + what, x.gap(0, 0, what), -1);
        }
        for (int n : NONE_SUCH) {
            for (int what = 0; what < 2; what++) {
                Due.due("gap(" + n + ", 0, " + what + ")", x.gap(n, 0, what), -1);
                Due.due("gap(0, " + n + ", " + what + ")", x.gap(0, n, what), -1);
            }
        }
    }

    // ---- Promises 22 to 24, 35

    /**
     * Promise 22: "Of ROWS that lie wholly from a TIME to another one (as in over()), those known: what each tells times its units of
     * TIME, together, by 1000"
     */
    private static void totalTells() {
        RoundRows x = Due.stored("step 7; measure a amount silence 99; archive most 1 by 4 share 0;");
        Due.reads(x, 7, 50, 9, X, 4, 6);
        // kept: 1.285, unknown, 0.571, 0.857, of 7 units each: 8.995, 3.997, 5.999
        int[][] want = {{7, 35, 18}, {8, 35, 9}, {7, 34, 12}, {0, 35, 18}, {7, 14, 8}, {7, 13, 0}, {21, 35, 9}, {28, 35, 5}, {28, 34, 0},
            {14, 21, 0}, {35, 7, 0}, {INT_LEAST, INT_MOST, 18}};
        for (int[] w : want) {
            Due.due("total(0, 0, " + w[0] + ", " + w[1] + ")", x.total(0, 0, w[0], w[1]), w[2]);
        }
        // a ROW counts all its units, those not known of it, too
        x = Due.stored("step 5; measure g gauge silence 99; archive mean 2 by 4 share 5;");
        x.read(5, X, 0, 0, 0);
        x.read(2, X, 0, 0, 0);
        x.read(3, 6, 0, 0, 0);
        Due.due("6 of 10 units", x.total(0, 0, 0, 10), 60);
        // more than an int
        x = Due.stored("step 60; measure g gauge silence 1000; archive most 12 by 30 share 0;");
        for (int i = 1; i <= 30; i++) {
            x.read(720, 999_999, 0, 0, 0);
            Due.due("of " + i, x.total(0, 0, 0, 100_000), 999_999L * 720 * i);
        }
    }

    /** Promise 22: "0, too, if there are none such." */
    private static void totalNone() {
        RoundRows x = kept(3, 5);
        Due.due("one", x.total(0, 0, 0, 1), 5);
        for (int n : NONE_SUCH) {
            Due.due("total(" + n + ", 0)", x.total(n, 0, 0, 9), 0);
            Due.due("total(0, " + n + ")", x.total(0, n, 0, 9), 0);
        }
        Due.due("no rows", kept(3).total(0, 0, 0, 9), 0);
    }

    /**
     * Promise 23: "How much a MEASURE's known ROWS rise from ROW to ROW, by the line with the least squares through them (a ROW's place:
     * its number from the eldest kept on, from 0): n * S(xy) - S(x) * S(y), by n * S(xx) - S(x) * S(x)"
     */
    private static void riseTells() {
        Due.due("2 5", kept(5, 2, 5).rise(0, 0), 3000);
        Due.due("5 2", kept(5, 5, 2).rise(0, 0), -3000);
        Due.due("5 5", kept(5, 5, 5).rise(0, 0), 0);
        Due.due("4 ? 9", kept(5, 4, X, 9).rise(0, 0), 2500);
        Due.due("? ? 4 9", kept(5, X, X, 4, 9).rise(0, 0), 5000);
        // x 0 2 3, y 4 9 0: (3 * 18000 - 5 * 13000) / (3 * 13 - 25) = -785.7, cut towards 0
        Due.due("4 ? 9 0", kept(5, 4, X, 9, 0).rise(0, 0), -785);
        // x 0 1 2, y 0 1 1: (3 * 3000 - 3 * 2000) / (3 * 5 - 9) = 500; y 1 0 0: -500
        Due.due("0 1 1", kept(5, 0, 1, 1).rise(0, 0), 500);
        Due.due("1 0 0", kept(5, 1, 0, 0).rise(0, 0), -500);
        // those kept alone, the eldest of them at 0
        Due.due("8 1 2 3, three kept", kept(3, 8, 1, 2, 3).rise(0, 0), 1000);
        Due.due("8 X 2 5, three kept", kept(3, 8, X, 2, 5).rise(0, 0), 3000);
        // the steepest of thirty: fifteen of 0, fifteen of 999,999
        RoundRows x = made("archive most 1 by 30 share 0;");
        x.read(15, 0, 0, 0, 0);
        x.read(15, 999_999, 0, 0, 0);
        // n S(xy) - S(x) S(y) = 999,999,000 * (30 * 330 - 435 * 15), by 30 * 8555 - 435 * 435
        Due.due("steep", x.rise(0, 0), 999_999_000L * (30 * 330 - 435 * 15) / (30 * 8555 - 435 * 435));
    }

    /** Promise 23: "UNKNOWN with fewer than two, or if there are none such." */
    private static void riseNone() {
        Due.due("none", kept(3).rise(0, 0), U);
        Due.due("one", kept(3, 5).rise(0, 0), U);
        Due.due("none known", kept(3, X, X, X).rise(0, 0), U);
        Due.due("one known", kept(3, X, 5, X).rise(0, 0), U);
        Due.due("one known of those kept", kept(3, 5, X, 5, X).rise(0, 0), U);
        RoundRows x = kept(3, X, 5, 6);
        Due.due("two known", x.rise(0, 0), 1000);
        for (int n : NONE_SUCH) {
            Due.due("rise(" + n + ", 0)", x.rise(n, 0), U);
            Due.due("rise(0, " + n + ")", x.rise(0, n), U);
        }
    }

    private static RoundRows archivesAt(int time, String archives) {
        RoundRows x = Due.stored("step 1;" + archives);
        x.read(time, 0, 0, 0, 0);
        return x;
    }

    /**
     * Promise 24: "The ARCHIVE of a how (0 .. 3) that tells from a TIME (0 or more) to now best: of those whose eldest ROW kept begins
     * there or earlier the one of the fewest STEPS a ROW"
     */
    private static void bestReaches() {
        RoundRows x = archivesAt(12, "archive mean 3 by 4 share 0; archive mean 1 by 3 share 0; archive mean 2 by 4 share 0;");
        // they begin at 0, 9 and 4
        int[][] want = {{0, 0}, {3, 0}, {4, 2}, {8, 2}, {9, 1}, {12, 1}, {100, 1}, {INT_MOST, 1}};
        for (int[] w : want) {
            Due.due("from " + w[0], x.best(0, w[0]), w[1]);
        }
        // of each how its own
        x = archivesAt(4, "archive latest 2 by 9 share 0; archive least 2 by 9 share 0; archive most 2 by 9 share 0; archive mean 2 by 9 share 0;");
        for (int how = 0; how < 4; how++) {
            Due.due("how " + how, x.best(how, 0), 3 - how);
        }
        // of like ones the first
        x = archivesAt(8, "archive mean 4 by 2 share 0; archive mean 2 by 4 share 0; archive mean 2 by 5 share 9;");
        Due.due("of like ones", x.best(0, 0), 1);
    }

    /**
     * Promise 24: "if there is none, that whose eldest begins first (of like ones of the fewest STEPS a ROW); of like ones the first"
     */
    private static void bestReachesNot() {
        RoundRows x = archivesAt(24, "archive mean 3 by 4 share 0; archive mean 1 by 3 share 0; archive mean 2 by 6 share 0; archive mean 2 by 6 share 0;");
        // they begin at 12, 21, 12 and 12
        Due.due("from 0", x.best(0, 0), 2);
        Due.due("from 11", x.best(0, 11), 2);
        Due.due("from 12: reached", x.best(0, 12), 2);
        x = archivesAt(24, "archive mean 1 by 11 share 0; archive mean 4 by 3 share 0; archive mean 12 by 1 share 0;");
        // they begin at 13, 12 and 12
        Due.due("from 11: begins first, of the fewest", x.best(0, 11), 1);
        Due.due("from 12: reached", x.best(0, 12), 1);
        Due.due("from 13: all reach, the fewest", x.best(0, 13), 0);
    }

    /** Promise 24: "one that keeps no ROW does not count; NONE if there is none." */
    private static void bestNone() {
        RoundRows x = Due.stored("step 1; archive mean 3 by 4 share 0; archive mean 1 by 3 share 0;");
        Due.due("none keeps a ROW", x.best(0, 0), -1);
        x.read(1, 0, 0, 0, 0);
        Due.due("one keeps a ROW", x.best(0, 0), 1);
        x.read(1, 0, 0, 0, 0);
        Due.due("the other one still keeps none", x.best(0, 0), 1);
        for (int how = 1; how < 4; how++) {
            Due.due("none of how " + how, x.best(how, 0), -1);
        }
        for (int how : new int[] {-1, 4, INT_MOST, INT_LEAST}) {
            Due.due("no how " + how, x.best(how, 0), -1);
        }
        Due.due("from -1", x.best(0, -1), -1);
        Due.due("from the least", x.best(0, INT_LEAST), -1);
        Due.due("of no text", new RoundRows().best(0, 0), -1);
    }

    /**
     * Promise 35: "Whether all is as it must be: how many ROWS of ARCHIVES of mean are beyond the greatest or least VALUE that was ever
     * known of their MEASURE."
     */
    private static void law() {
        Due.due("of no text", new RoundRows().law(), 0);
        RoundRows x = Due.stored("step 3; measure g gauge silence 99; measure h gauge silence 99; archive mean 1 by 2 share 0;"
                + "archive mean 3 by 5 share 9; archive most 1 by 1 share 0;");
        Due.due("no rows", x.law(), 0);
        int[] numbers = {5, 5, 5, 0, 999_999, X, X, X, 7, 7, 1, X, 3, 999_999, 0, 4, X, X, X, 8, 2};
        for (int i = 0; i < numbers.length; i++) {
            x.read(1 + i % 4, numbers[i], numbers[numbers.length - 1 - i], 0, 0);
            Due.due("reading " + i, x.law(), 0);
        }
        for (int i = 0; i < 12; i++) {
            x.undo();
            Due.due("taken back " + i, x.law(), 0);
        }
        Due.due("rows are there", x.archive(0, 4), 2);
    }
}
