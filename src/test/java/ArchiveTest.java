/** Promises 13 to 24 and 35: archives, their rows, and what is asked of these. */
public final class ArchiveTest {
    private static final int U = RoundRows.UNKNOWN;
    /** A number that makes a rate unknown. */
    private static final int X = -1;

    public static void main(String[] args) {
        hows();
        meansByUnits();
        shares();
        rings();
        archives();
        noneSuch();
        rowsAt();
        overs();
        share();
        smooth();
        alike();
        left();
        gaps();
        totals();
        rises();
        bests();
        law();
        Due.finish();
    }

    /** Reads numbers of measure 0, each for one step. */
    private static void read(RoundRows x, int step, int... numbers) {
        for (int n : numbers) {
            x.read(step, n, 0, 0, 0);
        }
    }

    private static void rows(String of, RoundRows x, int archive, int... want) {
        for (int i = 0; i < want.length; i++) {
            Due.due(of + ": row(" + archive + ", 0, " + i + ")", x.row(archive, 0, i), want[i]);
        }
        Due.due(of + ": no more rows", x.row(archive, 0, want.length), U);
        Due.due(of + ": kept", x.archive(archive, 4), want.length);
    }

    private static void hows() {
        RoundRows x = Due.stored("step 1; measure g gauge silence 9; archive mean 3 by 9 share 9; archive most 3 by 9 share 9;"
                + "archive least 3 by 9 share 9; archive latest 3 by 9 share 9;");
        read(x, 1, 5, 9, 3, 7, X, 2, X, 1, X, X, X, X, 6, 8);
        rows("mean", x, 0, U, 1000, 4500, 5666);
        rows("most", x, 1, U, 1000, 7000, 9000);
        rows("least", x, 2, U, 1000, 2000, 3000);
        rows("latest", x, 3, U, 1000, 2000, 3000);
        read(x, 1, X);
        Due.due("latest known", x.row(3, 0, 0), 8000);
        Due.due("mean of the known", x.row(0, 0, 0), 7000);
    }

    /** Values count by the units by which they were reckoned. */
    private static void meansByUnits() {
        RoundRows x = Due.stored("step 5; measure g gauge silence 9; archive mean 2 by 9 share 0;");
        x.read(2, X, 0, 0, 0);
        x.read(3, 10, 0, 0, 0);
        x.read(5, 2, 0, 0, 0);
        Due.due("3 of 10 and 5 of 2", x.row(0, 0, 0), 5000);
        x.read(1, 1, 0, 0, 0);
        x.read(4, 2, 0, 0, 0);
        x.read(3, 7, 0, 0, 0);
        x.read(2, X, 0, 0, 0);
        Due.due("5 of 1.8 and 3 of 7", x.row(0, 0, 0), (5 * 1800 + 3 * 7000) / 8);
        // each value is cut ahead of it: 1, 1, 0 are 666 by 3 units
        x = Due.stored("step 3; measure g gauge silence 9; archive mean 2 by 9 share 0;");
        read(x, 1, 1, 1, 0, 1, 1, 0);
        Due.due("cut values", x.row(0, 0, 0), 666);
    }

    private static void shares() {
        // of five: 10 times those not known, no more than 5 times the share
        int[] unknown = {0, 0, 1, 1, 2, 2, 3, 3, 4, 4};
        for (int share = 0; share <= 9; share++) {
            for (int many = 0; many <= 5; many++) {
                RoundRows x = Due.stored("step 2; measure g gauge silence 9; archive most 5 by 9 share " + share + ";");
                for (int s = 0; s < 5; s++) {
                    x.read(2, s < many ? X : 4, 0, 0, 0);
                }
                Due.due("share " + share + ", unknown " + many, x.row(0, 0, 0), many <= unknown[share] && many < 5 ? 4000 : U);
            }
        }
        // none known at all, though the share would allow it
        RoundRows x = Due.stored("step 2; measure g gauge silence 9; archive most 1 by 9 share 9;");
        read(x, 2, X);
        rows("none known", x, 0, U);
    }

    private static void rings() {
        RoundRows x = Due.stored("step 1; measure g gauge silence 99; archive latest 1 by 3 share 0; archive most 2 by 30 share 0;"
                + "archive least 12 by 1 share 0;");
        read(x, 1, 1, 2);
        rows("two", x, 0, 2000, 1000);
        read(x, 1, 3, 4, 5);
        rows("three of five", x, 0, 5000, 4000, 3000);
        rows("two of two", x, 1, 4000, 2000);
        for (int n = 6; n <= 62; n++) {
            read(x, 1, n);
        }
        rows("three of 62", x, 0, 62_000, 61_000, 60_000);
        Due.due("thirty kept", x.archive(1, 4), 30);
        for (int i = 0; i < 30; i++) {
            Due.due("row " + i, x.row(1, 0, i), 62_000 - 2000 * i);
        }
        Due.due("the 31st is gone", x.row(1, 0, 30), U);
        rows("one of five", x, 2, 49_000);
        // a reading over many steps fills rings too
        x.read(99, 7, 0, 0, 0);
        rows("by one reading", x, 0, 7000, 7000, 7000);
        rows("by one reading", x, 2, 7000);
    }

    private static void archives() {
        RoundRows x = Due.stored("step 5; measure g gauge silence 9; archive least 3 by 2 share 4; archive latest 1 by 7 share 0;");
        int[][] want = {{2, 3, 2, 4, 0, -1, 0}, {3, 1, 7, 0, 0, -1, 0}};
        archives("new", x, want);
        x.read(14, 1, 0, 0, 0);
        archives("14", x, new int[][] {{2, 3, 2, 4, 0, -1, 2}, {3, 1, 7, 0, 2, 10, 0}});
        x.read(1, 1, 0, 0, 0);
        archives("15", x, new int[][] {{2, 3, 2, 4, 1, 15, 0}, {3, 1, 7, 0, 3, 15, 0}});
        x.read(37, 1, 0, 0, 0);
        archives("52", x, new int[][] {{2, 3, 2, 4, 2, 45, 1}, {3, 1, 7, 0, 7, 50, 0}});
        // rows are over without measures, too
        x = Due.stored("step 5; archive mean 2 by 3 share 4;");
        x.read(22, 0, 0, 0, 0);
        Due.due("kept without measures", x.archive(0, 4), 2);
        Due.due("over without measures", x.archive(0, 5), 20);
        Due.due("row without measures", x.row(0, 0, 0), U);
    }

    private static void archives(String of, RoundRows x, int[][] want) {
        for (int a = 0; a < want.length; a++) {
            for (int what = 0; what < want[a].length; what++) {
                Due.due(of + ": archive(" + a + ", " + what + ")", x.archive(a, what), want[a][what]);
            }
            Due.due(of + ": archive 7", x.archive(a, 7), -1);
            Due.due(of + ": archive -1", x.archive(a, -1), -1);
        }
    }

    private static void noneSuch() {
        RoundRows x = Due.stored("step 1; measure g gauge silence 9; archive mean 1 by 5 share 0;");
        read(x, 1, 3, 4, 5);
        int[][] pairs = {{1, 0}, {-1, 0}, {0, 1}, {0, -1}, {4, 4}, {2147483647, 0}, {0, -2147483648}};
        for (int[] p : pairs) {
            String of = "none such " + p[0] + " " + p[1] + " ";
            Due.due(of + "row", x.row(p[0], p[1], 0), U);
            Due.due(of + "over", x.over(p[0], p[1], 0, 3, 0), U);
            Due.due(of + "over", x.over(p[0], p[1], 0, 3, 5), U);
            Due.due(of + "share", x.share(p[0], p[1], 50), U);
            Due.due(of + "smooth", x.smooth(p[0], p[1], 1, 0), U);
            Due.due(of + "alike", x.alike(p[0], p[1], 0), -1);
            Due.due(of + "alike", x.alike(p[0], 0, p[1]), -1);
            Due.due(of + "gap", x.gap(p[0], p[1], 0), -1);
            Due.due(of + "gap", x.gap(p[0], p[1], 1), -1);
            Due.due(of + "total", x.total(p[0], p[1], 0, 3), 0);
            Due.due(of + "rise", x.rise(p[0], p[1]), U);
        }
        int[] archives = {1, -1, 4, 2147483647, -2147483648};
        for (int a : archives) {
            Due.due("none such archive", x.archive(a, 1), -1);
            Due.due("none such rowAt", x.rowAt(a, 1), -1);
            Due.due("none such left", x.left(a), -1);
        }
        Due.due("row -1", x.row(0, 0, -1), U);
        Due.due("row 3", x.row(0, 0, 3), U);
        Due.due("row far", x.row(0, 0, 2147483647), U);
        Due.due("row far", x.row(0, 0, -2147483648), U);
    }

    private static void rowsAt() {
        RoundRows x = Due.stored("step 5; measure g gauge silence 9; archive mean 2 by 3 share 0;");
        Due.due("none over", x.rowAt(0, 1), -1);
        x.read(48, 1, 0, 0, 0);
        // kept: 10 to 20, 20 to 30, 30 to 40
        int[][] want = {{-1, -1}, {0, -1}, {1, -1}, {10, -1}, {11, 2}, {20, 2}, {21, 1}, {30, 1}, {31, 0}, {40, 0}, {41, -1},
            {48, -1}, {2147483647, -1}, {-2147483648, -1}};
        for (int[] w : want) {
            Due.due("rowAt(0, " + w[0] + ")", x.rowAt(0, w[0]), w[1]);
        }
    }

    private static void overs() {
        RoundRows x = Due.stored("step 5; measure g gauge silence 99; archive most 2 by 4 share 0;");
        read(x, 10, 9, 4, X, 6, 1, X);
        // kept: 20 to 30 unknown, 30 to 40: 6, 40 to 50: 1, 50 to 60 unknown
        int[][] want = {
            // from, to, many, known, mean, most, least, units unknown
            {0, 60, 4, 2, 3500, 6000, 1000, 20},
            {20, 60, 4, 2, 3500, 6000, 1000, 20},
            {21, 60, 3, 2, 3500, 6000, 1000, 10},
            {20, 59, 3, 2, 3500, 6000, 1000, 10},
            {30, 40, 1, 1, 6000, 6000, 6000, 0},
            {30, 39, 0, 0, U, U, U, 0},
            {31, 40, 0, 0, U, U, U, 0},
            {35, 55, 1, 1, 1000, 1000, 1000, 0},
            {50, 60, 1, 0, U, U, U, 10},
            {0, 20, 0, 0, U, U, U, 0},
            {60, 20, 0, 0, U, U, U, 0},
            {-2147483648, 2147483647, 4, 2, 3500, 6000, 1000, 20},
        };
        for (int[] w : want) {
            for (int what = 0; what < 6; what++) {
                Due.due("over(0, 0, " + w[0] + ", " + w[1] + ", " + what + ")", x.over(0, 0, w[0], w[1], what), w[2 + what]);
            }
            Due.due("over 6", x.over(0, 0, w[0], w[1], 6), U);
            Due.due("over -1", x.over(0, 0, w[0], w[1], -1), U);
        }
        x = Due.stored("step 1; measure a amount silence 99; archive most 1 by 4 share 0;");
        x.read(3, 1, 0, 0, 0);
        x.read(1, 0, 0, 0, 0);
        Due.due("a mean that is cut", x.over(0, 0, 0, 4, 2), 999 / 4);
    }

    private static void share() {
        RoundRows x = Due.stored("step 1; measure g gauge silence 99; archive most 1 by 8 share 0;");
        Due.due("none over", x.share(0, 0, 50), U);
        read(x, 1, 9, X, 4, 7, 4, X, 2);
        // known: 2 4 4 7 9
        int[][] want = {{0, 2}, {1, 2}, {20, 2}, {21, 4}, {40, 4}, {60, 4}, {61, 7}, {80, 7}, {81, 9}, {100, 9}};
        for (int[] w : want) {
            Due.due("share(0, 0, " + w[0] + ")", x.share(0, 0, w[0]), w[1] * 1000);
        }
        Due.due("share 101", x.share(0, 0, 101), U);
        Due.due("share -1", x.share(0, 0, -1), U);
        x = Due.stored("step 1; measure g gauge silence 99; archive most 1 by 8 share 0;");
        read(x, 1, X, X);
        Due.due("none known", x.share(0, 0, 0), U);
        // a third: 33 of 100 is less, 34 is more
        x = Due.stored("step 1; measure g gauge silence 99; archive most 1 by 3 share 0;");
        read(x, 1, 8, 5, 6);
        Due.due("33", x.share(0, 0, 33), 5000);
        Due.due("34", x.share(0, 0, 34), 6000);
    }

    private static void smooth() {
        RoundRows x = Due.stored("step 1; measure g gauge silence 99; archive most 1 by 6 share 0;");
        Due.due("none over", x.smooth(0, 0, 1, 0), U);
        read(x, 1, 50, 9, 4, X, 6, 1, X);
        // the latest first: X 1 6 X 4 9
        int[][] want = {{1, 0, U}, {2, 0, 1000}, {3, 0, 3500}, {4, 0, 3500}, {5, 0, 3666}, {6, 0, 5000}, {7, 0, 5000}, {30, 0, 5000},
            {31, 0, U}, {0, 0, U}, {-1, 0, U}, {1, 3, U}, {2, 3, 4000}, {2, 4, 6500}, {30, 4, 6500}, {1, 5, 9000}, {3, 5, 9000},
            {1, 6, U}, {5, -1, U}, {30, -3, U}, {2147483647, 1, U}, {2, 2147483647, U}};
        for (int[] w : want) {
            Due.due("smooth(0, 0, " + w[0] + ", " + w[1] + ")", x.smooth(0, 0, w[0], w[1]), w[2]);
        }
    }

    private static void alike() {
        RoundRows x = Due.stored("step 1; measure g gauge silence 99; measure h gauge silence 99; archive most 1 by 7 share 0;");
        int[][] reads = {{9, 9}, {5, 1}, {6, 4}, {6, 5}, {2, 4}, {3, X}, {4, 5}, {5, 4}, {7, 8}};
        //                gone    -       ++     = +     --      ? (X)   ?       + -     ++
        for (int[] r : reads) {
            x.read(1, r[0], r[1], 0, 0);
        }
        // kept: from {6, 4} on, which is the eldest: -- and ++ remain
        Due.due("alike", x.alike(0, 0, 1), 2);
        Due.due("alike", x.alike(0, 1, 0), 2);
        Due.due("alike itself", x.alike(0, 0, 0), 5);
        Due.due("alike itself", x.alike(0, 1, 1), 4);
        Due.due("none such", x.alike(0, 0, 2), -1);
        Due.due("none such", x.alike(0, 2, 0), -1);
        Due.due("none such", x.alike(0, -1, 0), -1);
        Due.due("none such", x.alike(1, 0, 0), -1);
        x = Due.stored("step 1; measure g gauge silence 99; archive most 1 by 7 share 0;");
        Due.due("no rows", x.alike(0, 0, 0), 0);
        read(x, 1, 1);
        Due.due("the eldest alone", x.alike(0, 0, 0), 0);
    }

    private static void left() {
        RoundRows x = Due.stored("step 5; archive most 3 by 7 share 0; archive most 1 by 1 share 0;");
        int[][] want = {{0, 15, 5}, {4, 11, 1}, {1, 10, 5}, {6, 4, 4}, {4, 15, 5}, {1, 14, 4}, {30, 14, 4}};
        for (int[] w : want) {
            x.read(w[0], 0, 0, 0, 0);
            Due.due("left(0) at " + x.about(5), x.left(0), w[1]);
            Due.due("left(1) at " + x.about(5), x.left(1), w[2]);
        }
    }

    private static void gaps() {
        RoundRows x = Due.stored("step 1; measure g gauge silence 99; archive most 1 by 9 share 0;");
        Due.due("no rows", x.gap(0, 0, 0), 0);
        Due.due("no rows", x.gap(0, 0, 1), -1);
        read(x, 1, 4);
        Due.due("none unknown", x.gap(0, 0, 0), 0);
        Due.due("none unknown", x.gap(0, 0, 1), -1);
        read(x, 1, X);
        Due.due("one", x.gap(0, 0, 0), 1);
        Due.due("one", x.gap(0, 0, 1), 0);
        read(x, 1, X, 3, X, X, 3);
        Due.due("two twice: the latest", x.gap(0, 0, 0), 2);
        Due.due("two twice: the latest", x.gap(0, 0, 1), 1);
        read(x, 1, X);
        Due.due("two, behind one", x.gap(0, 0, 0), 2);
        Due.due("two, behind one", x.gap(0, 0, 1), 2);
        read(x, 1, X, X);
        Due.due("three", x.gap(0, 0, 0), 3);
        Due.due("three", x.gap(0, 0, 1), 0);
        Due.due("another what", x.gap(0, 0, 2), -1);
        Due.due("another what", x.gap(0, 0, -1), -1);
        x = Due.stored("step 1; measure g gauge silence 99; archive most 1 by 3 share 0;");
        read(x, 1, X, X, X, X, 5);
        Due.due("those kept alone", x.gap(0, 0, 0), 2);
        Due.due("those kept alone", x.gap(0, 0, 1), 1);
    }

    private static void totals() {
        RoundRows x = Due.stored("step 7; measure a amount silence 99; archive most 1 by 4 share 0;");
        read(x, 7, 50, 9, -1, 4, 6);
        // kept: 9 by 7: 1285, unknown, 4 by 7: 571, 6 by 7: 857, seven units each
        Due.due("all", x.total(0, 0, 0, 35), (1285 + 571 + 857) * 7 / 1000);
        Due.due("all", x.total(0, 0, 7, 35), 18);
        Due.due("all but the eldest", x.total(0, 0, 8, 35), 9);
        Due.due("one", x.total(0, 0, 28, 35), 5);
        Due.due("none", x.total(0, 0, 28, 34), 0);
        Due.due("unknown", x.total(0, 0, 14, 21), 0);
        x = Due.stored("step 60; measure g gauge silence 1000; archive most 12 by 30 share 0;");
        for (int i = 0; i < 30; i++) {
            x.read(720, 999_999, 0, 0, 0);
        }
        Due.due("more than an int", x.total(0, 0, 0, 100_000), 999_999L * 720 * 30);
    }

    private static void rises() {
        RoundRows x = Due.stored("step 1; measure g gauge silence 99; archive most 1 by 5 share 0;");
        Due.due("none", x.rise(0, 0), U);
        read(x, 1, 4);
        Due.due("one", x.rise(0, 0), U);
        read(x, 1, X);
        Due.due("one known", x.rise(0, 0), U);
        read(x, 1, 9);
        Due.due("4 ? 9", x.rise(0, 0), 2500);
        read(x, 1, 0);
        // x 0 2 3, y 4 9 0: n = 3, S(x) = 5, S(xx) = 13, S(y) = 13000, S(xy) = 18000
        Due.due("4 ? 9 0", x.rise(0, 0), (3 * 18_000 - 5 * 13_000) / (3 * 13 - 25));
        read(x, 1, 0, 0);
        // ? 9 0 0 0: the eldest kept is at 0 though it is unknown
        Due.due("? 9 0 0 0", x.rise(0, 0), (4 * 9000 - 10 * 9000) / (4 * 30 - 100));
        read(x, 1, 7, 7, 7, 7, 7);
        Due.due("flat", x.rise(0, 0), 0);
    }

    private static void bests() {
        RoundRows x = Due.stored("step 1; measure g gauge silence 99; archive mean 1 by 3 share 0; archive mean 3 by 4 share 0;"
                + "archive most 2 by 2 share 0; archive mean 3 by 3 share 0;");
        for (int how = -1; how < 5; how++) {
            Due.due("none keeps a row: " + how, x.best(how, 0), -1);
        }
        x.read(2, 1, 0, 0, 0);
        // archive 0 begins at 0, 2 at 0
        Due.due("mean at 2", x.best(0, 0), 0);
        Due.due("most at 2", x.best(1, 0), 2);
        Due.due("least at 2", x.best(2, 0), -1);
        Due.due("latest at 2", x.best(3, 0), -1);
        x.read(10, 1, 0, 0, 0);
        // at 12: archive 0 begins at 9, 1 at 0, 2 at 8, 3 at 3
        Due.due("from 0", x.best(0, 0), 1);
        Due.due("from 2", x.best(0, 2), 1);
        Due.due("from 3: the first of like ones", x.best(0, 3), 1);
        Due.due("from 8", x.best(0, 8), 1);
        Due.due("from 9: the fewest steps", x.best(0, 9), 0);
        Due.due("from 99", x.best(0, 99), 0);
        Due.due("most from 0: begins first", x.best(1, 0), 2);
        Due.due("from -1", x.best(0, -1), -1);
        Due.due("how 4", x.best(4, 0), -1);
        Due.due("how -1", x.best(-1, 0), -1);
        x.read(3, 1, 0, 0, 0);
        // at 15: 0 begins at 12, 1 at 3, 3 at 6
        Due.due("none reaches 2: begins first", x.best(0, 2), 1);
        // one begins at 9 just where it is asked from, the other one ahead of it at 0
        x = Due.stored("step 1; archive mean 3 by 4 share 0; archive mean 1 by 3 share 0;");
        x.read(12, 0, 0, 0, 0);
        Due.due("just from 9", x.best(0, 9), 1);
        Due.due("from 8", x.best(0, 8), 0);
        // like ones: 2 STEPS a row and 4 rows, 1 STEP a row and 8 rows, 4 and 2, all from 0 on
        x = Due.stored("step 1; archive least 2 by 4 share 0; archive least 1 by 8 share 0; archive least 4 by 2 share 0;"
                + "archive least 1 by 8 share 1;");
        x.read(8, 0, 0, 0, 0);
        Due.due("all reach: the fewest steps", x.best(2, 0), 1);
        x.read(8, 0, 0, 0, 0);
        Due.due("none reaches, all begin at 8: the fewest steps", x.best(2, 7), 1);
        Due.due("all reach 8", x.best(2, 8), 1);
    }

    private static void law() {
        RoundRows x = Due.stored("step 3; measure g gauge silence 99; measure h gauge silence 99; archive mean 2 by 5 share 9;"
                + "archive mean 3 by 5 share 4; archive most 1 by 1 share 0;");
        int[] numbers = {5, 0, 999_999, X, X, 7, 7, 7, 1, X, 3, 999_999, 999_999, 4, 4, X, X, X, 8, 2};
        for (int i = 0; i < numbers.length; i++) {
            x.read(1 + i % 4, numbers[i], i % 3 == 0 ? X : 1, 0, 0);
            Due.due("law at " + i, x.law(), 0);
        }
        Due.due("rows", x.archive(1, 4), 5);
    }
}
