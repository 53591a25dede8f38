/** Promises 8, 9 and 36 to 38: acts taken back and done again, boxes, about. */
public final class HistoryTest {
    private static final int U = RoundRows.UNKNOWN;
    private static final String TEXT = "step 4; measure g gauge silence 9; measure c counter 4 8 silence 9; archive mean 2 by 3 share 5;"
            + "archive latest 1 by 30 share 0; forecast g season 2 by 9 5 3 band 1; forecast c season 3 by 16 16 16 band 1;"
            + "show s = g + c or 3;";

    public static void main(String[] args) {
        none();
        twelve();
        branches();
        allIsAsItWas();
        refusedActsAreNone();
        boxes();
        boxesKeepAll();
        boxesAndActs();
        abouts();
        Due.finish();
    }

    /** All that an object answers of its present state. */
    private static long print(RoundRows x) {
        long p = 17;
        for (int m = 0; m < 2; m++) {
            for (int what = 0; what < 6; what++) {
                p = p * 31 + x.measure(m, what);
                p = p * 31 + x.forecast(m, what);
            }
            p = (p * 31 + x.rate(m)) * 31 + x.value(m);
            for (int i = 0; i < 30; i++) {
                p = (p * 31 + x.row(0, m, i)) * 31 + x.row(1, m, i);
                p = (p * 31 + x.told(m, i, 0)) * 31 + x.told(m, i, 1);
                p = (p * 31 + x.place(m, i, 0)) * 31 + x.place(m, i, 1);
            }
        }
        for (int what = 0; what < 9; what++) {
            p = p * 31 + x.about(what);
        }
        return p;
    }

    private static void acts(String of, RoundRows x, int back, int again) {
        Due.due(of + ": can be taken back", x.about(9), back);
        Due.due(of + ": can be done again", x.about(10), again);
    }

    private static void none() {
        RoundRows x = Due.stored(TEXT);
        Due.due("undo", x.undo(), false);
        Due.due("redo", x.redo(), false);
        acts("none", x, 0, 0);
        x.read(1, 1, 1, 0, 0);
        Due.due("redo", x.redo(), false);
        Due.due("undo", x.undo(), true);
        Due.due("undo", x.undo(), false);
        Due.due("redo", x.redo(), true);
        Due.due("redo", x.redo(), false);
        acts("one", x, 1, 0);
    }

    private static void twelve() {
        RoundRows x = Due.stored(TEXT);
        for (int i = 1; i <= 15; i++) {
            x.read(1, i, 0, 0, 0);
            acts("act " + i, x, Math.min(i, 12), 0);
        }
        for (int i = 1; i <= 12; i++) {
            Due.due("undo " + i, x.undo(), true);
            acts("undo " + i, x, 12 - i, i);
            Due.due("time", x.about(5), 15 - i);
            Due.due("rate", x.rate(0), 1000 * (15 - i));
        }
        Due.due("the 13th", x.undo(), false);
        Due.due("time stays", x.about(5), 3);
        for (int i = 1; i <= 12; i++) {
            Due.due("redo " + i, x.redo(), true);
            Due.due("rate", x.rate(0), 1000 * (3 + i));
            acts("redo " + i, x, i, 12 - i);
        }
        Due.due("the 13th", x.redo(), false);
        Due.due("rate stays", x.rate(0), 15_000);
        x.read(1, 16, 0, 0, 0);
        acts("act behind all", x, 12, 0);
    }

    private static void branches() {
        RoundRows x = Due.stored(TEXT);
        for (int i = 1; i <= 5; i++) {
            x.read(1, i, 0, 0, 0);
        }
        x.undo();
        x.undo();
        x.undo();
        x.turn(0, 2, 50);
        acts("another act", x, 3, 0);
        Due.due("none is done again", x.redo(), false);
        x.undo();
        Due.due("most", x.measure(0, 2), 999_999);
        x.redo();
        Due.due("most", x.measure(0, 2), 50);
        x.undo();
        x.undo();
        Due.due("rate", x.rate(0), 1000);
        x.read(2, 9, 0, 0, 0);
        Due.due("rate", x.rate(0), 9000);
        acts("another act", x, 2, 0);
        x.undo();
        Due.due("rate", x.rate(0), 1000);
    }

    private static void allIsAsItWas() {
        RoundRows x = Due.stored(TEXT);
        long[] prints = new long[60];
        int[] numbers = {4, 9, -1, 3, 100, 0, 7, 255, 256, 12};
        for (int i = 0; i < 48; i++) {
            prints[i] = print(x);
            if (i % 5 == 4) {
                x.turn(i % 2, i % 3, i % 3 == 1 ? i % 4 : 30 + i);
            } else {
                x.read(1 + i % 7 * (i % 3), numbers[i % 10], numbers[i * 3 % 10], 0, 0);
            }
        }
        prints[48] = print(x);
        for (int i = 47; i >= 36; i--) {
            x.undo();
            Due.due("taken back to " + i, print(x), prints[i]);
        }
        for (int i = 37; i <= 48; i++) {
            x.redo();
            Due.due("done again to " + i, print(x), prints[i]);
        }
    }

    private static void refusedActsAreNone() {
        RoundRows x = Due.stored(TEXT);
        x.read(3, 1, 1, 0, 0);
        x.read(3, 2, 1, 0, 0);
        x.undo();
        x.read(0, 1, 1, 0, 0);
        x.read(1001, 1, 1, 0, 0);
        x.turn(0, 0, 0);
        x.turn(5, 0, 1);
        x.image(3);
        x.back(1);
        acts("refused", x, 1, 1);
        Due.due("redo", x.redo(), true);
        Due.due("rate", x.rate(0), 2000);
    }

    private static void boxes() {
        RoundRows x = Due.stored(TEXT);
        int[] none = {-1, 2, 2147483647, -2147483648};
        for (int box : none) {
            Due.due("image(" + box + ")", x.image(box), -1);
            Due.due("back(" + box + ")", x.back(box), -1);
        }
        Due.due("nothing was kept", x.back(0), -1);
        Due.due("nothing was kept", x.back(1), -1);
        Due.due("image at 0", x.image(1), 0);
        Due.due("the other box", x.back(0), -1);
        x.read(5, 1, 1, 0, 0);
        Due.due("image", x.image(0), 5);
        x.read(4, 3, 1, 0, 0);
        Due.due("back", x.back(1), 0);
        Due.due("time", x.about(5), 0);
        Due.due("back", x.back(0), 5);
        Due.due("rate", x.rate(0), 1000);
        x.read(7, 3, 1, 0, 0);
        Due.due("back once more", x.back(0), 5);
        x.read(7, 3, 1, 0, 0);
        Due.due("image over it", x.image(0), 12);
        x.read(1, 8, 1, 0, 0);
        Due.due("back", x.back(0), 12);
        Due.due("rate", x.rate(0), 3000);
        // a good store empties them
        Due.put(x, TEXT);
        x.store();
        Due.due("empty", x.back(0), -1);
        Due.due("empty", x.back(1), -1);
    }

    private static void boxesKeepAll() {
        RoundRows x = Due.stored(TEXT);
        int[] numbers = {4, 9, -1, 3, 100, 0, 7, 255, 256, 12};
        for (int i = 0; i < 40; i++) {
            x.read(1 + i % 7 * (i % 3), numbers[i % 10], numbers[i * 3 % 10], 0, 0);
        }
        x.turn(0, 1, 3);
        long print = print(x);
        int time = x.about(5);
        Due.due("image", x.image(0), time);
        Due.due("image changes nothing", print(x), print);
        for (int i = 0; i < 40; i++) {
            x.read(2 + i % 5, numbers[i * 7 % 10], numbers[i % 10], 0, 0);
        }
        Due.due("other", print(x) != print, true);
        Due.due("back", x.back(0), time);
        Due.due("all is as it was kept", print(x), print);
        // what comes behind it is as it would have been
        x.read(9, 5, 30, 0, 0);
        long next = print(x);
        x.read(500, 5, 30, 0, 0);
        x.back(0);
        x.read(9, 5, 30, 0, 0);
        Due.due("likewise", print(x), next);
    }

    private static void boxesAndActs() {
        RoundRows x = Due.stored(TEXT);
        x.read(1, 1, 0, 0, 0);
        x.read(1, 2, 0, 0, 0);
        x.undo();
        x.image(0);
        acts("image leaves acts", x, 1, 1);
        Due.put(x, "step");
        Due.due("refused back", x.back(1), -1);
        acts("refused back leaves acts", x, 1, 1);
        Due.due("back", x.back(0), 1);
        acts("back", x, 0, 0);
        Due.due("undo", x.undo(), false);
        Due.due("redo", x.redo(), false);
        Due.due("the tape stays", x.about(11), 4);
        x.read(1, 5, 0, 0, 0);
        acts("an act behind it", x, 1, 0);
        x.undo();
        Due.due("rate", x.rate(0), 1000);
        // a fault is the latest store's, whatever comes back
        Due.due("store", x.store(), -1);
        x.back(0);
        Due.due("fault", x.fault(0), 1);
        Due.due("place", x.fault(1), 4);
    }

    private static void abouts() {
        RoundRows x = Due.stored(TEXT);
        x.read(9, 1, 1, 0, 0);
        x.read(9, 1, 1, 0, 0);
        x.read(9, 1, 1, 0, 0);
        x.undo();
        Due.put(x, "12345");
        int[] want = {4, 2, 2, 1, 3, 18, 4, 2, 3, 2, 1, 5};
        for (int what = 0; what < 12; what++) {
            Due.due("about(" + what + ")", x.about(what), want[what]);
        }
        int[] other = {-1, 12, 2147483647, -2147483648};
        for (int what : other) {
            Due.due("about(" + what + ")", x.about(what), -1);
        }
        String four = "step 2; measure a gauge silence 1; measure b gauge silence 1; measure c gauge silence 1; measure d gauge silence 1;";
        String[] names = {"a", "b", "c", "d"};
        for (int bits = 0; bits < 16; bits++) {
            StringBuilder text = new StringBuilder(four);
            for (int m = 0; m < 4; m++) {
                text.append((bits >> m & 1) == 1 ? "forecast " + names[m] + " season 2 by 1 1 1 band 1;" : "");
            }
            Due.due("forecasts", Due.stored(text.toString()).about(4), bits);
        }
        Due.due("no rate of none", x.rate(2), U);
    }
}
