/** The document's sentences of ACTS and BOXES, each with its boundary cases; promises 8, 9 and 36 to 38, and what the face says. */
public final class HistoryTest {
    private static final int INT_MOST = 2147483647;
    private static final int INT_LEAST = -2147483648;
    private static final String TEXT = "step 2; measure g gauge silence 9; measure c counter 4 8 silence 9; archive mean 2 by 3 share 5;"
            + "archive latest 1 by 30 share 0; forecast g season 2 by 9 5 3 band 1; show s = g + c or 3;";

    public static void main(String[] args) {
        constants();
        manyCalls();
        actsNotRefused();
        takesBackTheLatest();
        longRunTakenBack();
        tillAnotherAct();
        twelveKept();
        undoNone();
        redoNone();
        imageKeeps();
        imageNone();
        backAsItWas();
        backEndsActs();
        backNone();
        aboutTells();
        aboutNone();
        Due.finish();
    }

    private static void acts(String of, RoundRows x, int back, int again) {
        Due.due(of + ": can be taken back", x.about(9), back);
        Due.due(of + ": can be done again", x.about(10), again);
    }

    // ---- the face

    /**
     * Terms: "The constants: `NONE = -1`: There is none. `UNKNOWN = -2147483648`: What is UNKNOWN (and what can't be)."
     */
    private static void constants() {
        Due.due("NONE", RoundRows.NONE, -1);
        Due.due("UNKNOWN", RoundRows.UNKNOWN, INT_LEAST);
        Due.due("there is none", new RoundRows().measure(0, 0), RoundRows.NONE);
        Due.due("can't be", new RoundRows().would(1, 1, 0, 0), RoundRows.UNKNOWN);
    }

    /** What it is: "An object is used for at most 512 calls after it has been made" */
    private static void manyCalls() {
        RoundRows x = new RoundRows();
        // the dearest ones: a thousand STEPS of four MEASURES with FORECASTS in four ARCHIVES
        StringBuilder text = new StringBuilder("step 1;");
        for (char c = 'a'; c <= 'd'; c++) {
            text.append("measure ").append(c).append(" amount silence 1000; forecast ").append(c).append(" season 24 by 8 8 8 band 1;");
            text.append("archive mean 1 by 30 share 9;");
        }
        Due.put(x, text.toString());
        int calls = 2 + (text.length() + 19) / 20;
        Due.due("store", x.store(), 4);
        int reads = 0;
        for (calls += 1; calls < 510; calls++) {
            if (calls % 5 == 0) {
                Due.due("undo at " + calls, x.undo(), reads > 0);
                reads--;
            } else if (calls % 5 == 1) {
                Due.due("image at " + calls, x.image(calls % 2), 50 * reads);
            } else {
                Due.due("read at " + calls, x.read(50, calls, calls, calls, calls), 50);
                reads++;
            }
        }
        Due.due("the 511th call", x.about(5), 50 * reads);
        Due.due("the 512th call", x.law(), 0);
    }

    // ---- Terms

    /** Terms: "ACTS are read(), turn(), where they are not refused" */
    private static void actsNotRefused() {
        RoundRows x = Due.stored(TEXT);
        acts("none", x, 0, 0);
        x.read(1, 1, 1, 0, 0);
        acts("read", x, 1, 0);
        x.turn(0, 0, 5);
        acts("turn", x, 2, 0);
        x.turn(0, 0, 5);
        acts("turn to what it is", x, 3, 0);
        x.read(1, -1, -1, 0, 0);
        acts("read of what is UNKNOWN", x, 4, 0);
        x.undo();
        acts("undo", x, 3, 1);
        x.read(0, 1, 1, 0, 0);
        x.read(1001, 1, 1, 0, 0);
        x.turn(0, 0, 0);
        x.turn(0, 3, 1);
        x.turn(2, 0, 1);
        acts("refused", x, 3, 1);
        x.image(0);
        x.feed(0, 0, 0, 0, 0);
        x.end(3);
        x.store();
        x.would(1, 1, 0, 0);
        x.fits(1, 0);
        x.law();
        acts("what is no ACT", x, 3, 1);
        Due.due("redo", x.redo(), true);
        Due.due("the refused ones came not between", x.rate(0), RoundRows.UNKNOWN);
    }

    /** Terms: "UNDO takes back the latest ACT that was not, REDO does that again which was taken back last" */
    private static void takesBackTheLatest() {
        RoundRows x = done(5);
        long state = Due.stateOf(x);
        // all but how many ACTS there are is as if no more had been done
        for (int i = 4; i >= 0; i--) {
            x.undo();
            Due.due("taken back to " + i, answers(x), answers(done(i)));
        }
        for (int i = 1; i <= 5; i++) {
            x.redo();
            if (i % 2 == 0) {
                Due.due("done again to " + i, answers(x), answers(done(i)));
            }
        }
        Due.due("all is done again", Due.stateOf(x) == state, true);
        x.undo();
        x.undo();
        x.redo();
        Due.due("that which was taken back last", answers(x), answers(done(4)));
    }

    private static RoundRows done(int acts) {
        RoundRows x = Due.stored(TEXT);
        if (acts > 0) {
            x.read(3, 4, 9, 0, 0);
        }
        if (acts > 1) {
            x.turn(0, 2, 8);
        }
        if (acts > 2) {
            x.read(1, 9, 8, 0, 0);
        }
        if (acts > 3) {
            x.turn(1, 1, 1);
        }
        if (acts > 4) {
            x.read(9, 5, 256, 0, 0);
        }
        return x;
    }

    /** What it answers, but how many ACTS there are. */
    private static long answers(RoundRows x) {
        long all = 17;
        for (int what = 5; what < 8; what++) {
            all = all * 31 + x.about(what);
        }
        for (int m = 0; m < 2; m++) {
            for (int what = 0; what < 6; what++) {
                all = all * 31 + x.measure(m, what);
            }
            all = (all * 31 + x.rate(m)) * 31 + x.value(m);
            for (int i = 0; i < 3; i++) {
                all = (all * 31 + x.row(0, m, i)) * 31 + x.row(1, m, i);
            }
        }
        for (int i = 0; i < 3; i++) {
            all = (all * 31 + x.forecast(0, i)) * 31 + x.told(0, i, 0);
        }
        return all;
    }

    /** Terms: "UNDO takes back the latest ACT that was not, REDO does that again which was taken back last" */
    private static void longRunTakenBack() {
        for (int acts = 30; acts <= 48; acts += 9) {
            RoundRows x = longRun(acts);
            for (int i = 1; i <= 12; i++) {
                x.undo();
                if (i % 4 == 0) {
                    Due.due("taken back to " + (acts - i), answers(x), answers(longRun(acts - i)));
                }
            }
            for (int i = 1; i <= 12; i++) {
                x.redo();
            }
            Due.due("done again to " + acts, answers(x), answers(longRun(acts)));
        }
    }

    private static RoundRows longRun(int acts) {
        RoundRows x = Due.stored(TEXT);
        int[] numbers = {4, 9, -1, 3, 100, 0, 7, 255, 256, 12};
        for (int i = 0; i < acts; i++) {
            if (i % 5 == 4) {
                x.turn(i % 2, i % 3, i % 3 == 1 ? i % 4 : 30 + i);
            } else {
                x.read(1 + i % 7 * (i % 3), numbers[i % 10], numbers[i * 3 % 10], 0, 0);
            }
        }
        return x;
    }

    /** Terms: "(till another ACT)" */
    private static void tillAnotherAct() {
        RoundRows x = Due.stored(TEXT);
        for (int i = 1; i <= 5; i++) {
            x.read(1, i, 0, 0, 0);
        }
        x.undo();
        x.undo();
        x.undo();
        acts("three taken back", x, 2, 3);
        Due.due("one that is refused is none", x.read(0, 9, 0, 0, 0), -1);
        acts("refused", x, 2, 3);
        x.redo();
        acts("one done again", x, 3, 2);
        x.turn(0, 2, 50);
        acts("another ACT", x, 4, 0);
        Due.due("redo", x.redo(), false);
        x.undo();
        Due.due("most", x.measure(0, 2), 999_999);
        Due.due("the other ACT is done again", x.redo(), true);
        Due.due("most", x.measure(0, 2), 50);
        x.undo();
        x.undo();
        Due.due("rate", x.rate(0), 2000);
        x.read(2, 9, 0, 0, 0);
        acts("another ACT", x, 3, 0);
        Due.due("redo", x.redo(), false);
    }

    /** Terms: "12 at most are kept, the oldest go." */
    private static void twelveKept() {
        for (int many = 11; many <= 14; many++) {
            RoundRows x = Due.stored(TEXT);
            for (int i = 1; i <= many; i++) {
                x.read(1, i, 0, 0, 0);
                acts("ACT " + i, x, Math.min(i, 12), 0);
            }
            int kept = Math.min(many, 12);
            for (int i = 1; i <= kept; i++) {
                Due.due("undo " + i + " of " + many, x.undo(), true);
                acts("undo " + i + " of " + many, x, kept - i, i);
                Due.due("time", x.about(5), many - i);
            }
            Due.due("one more undo of " + many, x.undo(), false);
            Due.due("time stays", x.about(5), many - kept);
            for (int i = 1; i <= kept; i++) {
                Due.due("redo " + i + " of " + many, x.redo(), true);
                acts("redo " + i + " of " + many, x, i, kept - i);
                Due.due("rate", x.rate(0), 1000 * (many - kept + i));
            }
            Due.due("one more redo of " + many, x.redo(), false);
            Due.due("time stays", x.about(5), many);
        }
        // behind twelve taken back, twelve others
        RoundRows x = Due.stored(TEXT);
        for (int round = 0; round < 3; round++) {
            for (int i = 1; i <= 13; i++) {
                x.read(1, i, 0, 0, 0);
            }
            acts("round " + round, x, 12, 0);
            for (int i = 1; i <= 12; i++) {
                x.undo();
            }
            acts("round " + round, x, 0, 12);
            Due.due("time", x.about(5), round + 1);
            Due.due("rate", x.rate(0), 1000);
        }
    }

    // ---- Promises 8 and 9

    /** Promise 8: "UNDO: true; false if there is none." */
    private static void undoNone() {
        Due.due("no text", new RoundRows().undo(), false);
        RoundRows x = Due.stored(TEXT);
        Due.due("none", x.undo(), false);
        x.read(0, 1, 1, 1, 1);
        Due.due("a refused one", x.undo(), false);
        x.read(3, 1, 1, 1, 1);
        Due.due("one", x.undo(), true);
        Due.due("time", x.about(5), 0);
        Due.due("none is left", x.undo(), false);
        Due.due("nothing is done", x.about(10), 1);
        // without a text there are READINGS, too
        x = new RoundRows();
        x.read(5, 0, 0, 0, 0);
        Due.due("one without a text", x.undo(), true);
        Due.due("time", x.about(5), 0);
    }

    /** Promise 9: "REDO: true; false if there is none." */
    private static void redoNone() {
        Due.due("no text", new RoundRows().redo(), false);
        RoundRows x = Due.stored(TEXT);
        x.read(3, 1, 1, 1, 1);
        Due.due("none was taken back", x.redo(), false);
        x.undo();
        Due.due("one", x.redo(), true);
        Due.due("time", x.about(5), 3);
        Due.due("none is left", x.redo(), false);
        Due.due("nothing is done", x.about(9), 1);
    }

    // ---- Promises 36 and 37

    /** Promise 36: "All that there is (but the TAPE) is kept in a BOX (0, 1): the TIME" */
    private static void imageKeeps() {
        RoundRows x = Due.stored(TEXT);
        Due.due("at TIME 0", x.image(1), 0);
        x.read(5, 4, 9, 0, 0);
        x.undo();
        x.redo();
        x.undo();
        Due.put(x, "abc");
        long state = Due.stateOf(x);
        Due.due("at TIME 0", x.image(0), 0);
        Due.due("all stays", Due.stateOf(x) == state, true);
        Due.due("redo stays", x.redo(), true);
        Due.due("at TIME 5", x.image(0), 5);
        x.read(3, 4, 9, 0, 0);
        // each BOX has its own, and the TAPE is in none
        x.feed(0, 0, 0, 0, 0);
        Due.due("back to TIME 0", x.back(1), 0);
        Due.due("the TAPE stays", x.about(11), 23);
        Due.due("back to TIME 5", x.back(0), 5);
        Due.due("the TAPE stays", x.about(11), 23);
        x.read(2, 4, 9, 0, 0);
        Due.due("kept in place of what was", x.image(0), 7);
        x.read(1, 4, 9, 0, 0);
        Due.due("back to TIME 7", x.back(0), 7);
        // of an object without a text, too
        x = new RoundRows();
        x.read(9, 0, 0, 0, 0);
        Due.due("without a text", x.image(0), 9);
        x.undo();
        Due.due("back without a text", x.back(0), 9);
    }

    /** Promise 36: "NONE if there is none such." */
    private static void imageNone() {
        RoundRows x = Due.stored(TEXT);
        x.read(5, 4, 9, 0, 0);
        for (int box : new int[] {-1, 2, INT_MOST, INT_LEAST}) {
            Due.due("image(" + box + ")", x.image(box), -1);
        }
        Due.due("nothing was kept", x.back(0), -1);
        Due.due("nothing was kept", x.back(1), -1);
        Due.due("BOX 0", x.image(0), 5);
        Due.due("BOX 1", x.image(1), 5);
    }

    /** Promise 37: "All is as it was kept" */
    private static void backAsItWas() {
        RoundRows x = Due.stored(TEXT);
        int[] numbers = {4, 9, -1, 3, 100, 0, 7, 255, 256, 12};
        for (int i = 0; i < 20; i++) {
            x.read(1 + i % 7 * (i % 3), numbers[i % 10], numbers[i * 3 % 10], 0, 0);
        }
        x.turn(0, 1, 3);
        long kept = answers(x);
        int time = x.image(0);
        for (int i = 0; i < 20; i++) {
            x.read(2 + i % 5, numbers[i * 7 % 10], numbers[i % 10], 0, 0);
        }
        x.turn(0, 1, 1);
        x.turn(1, 0, 4);
        Due.due("other answers", answers(x) == kept, false);
        Due.due("back", x.back(0), time);
        Due.due("as it was kept", answers(x), kept);
        // the BOX keeps it: what comes behind changes nothing there
        x.read(9, 5, 30, 0, 0);
        long next = answers(x);
        x.read(500, 5, 30, 0, 0);
        Due.due("back once more", x.back(0), time);
        Due.due("as it was kept", answers(x), kept);
        x.read(9, 5, 30, 0, 0);
        Due.due("what comes then is as it was", answers(x), next);
    }

    /** Promise 37: "(nothing can be taken back, or done again then): the TIME" */
    private static void backEndsActs() {
        RoundRows x = Due.stored(TEXT);
        x.read(1, 1, 0, 0, 0);
        x.read(1, 2, 0, 0, 0);
        x.image(0);
        x.read(1, 3, 0, 0, 0);
        x.undo();
        acts("ahead of it", x, 2, 1);
        Due.due("back", x.back(0), 2);
        acts("behind it", x, 0, 0);
        Due.due("undo", x.undo(), false);
        Due.due("redo", x.redo(), false);
        x.read(1, 4, 0, 0, 0);
        acts("an ACT behind it", x, 1, 0);
        Due.due("undo", x.undo(), true);
        Due.due("rate", x.rate(0), 2000);
        Due.due("no more", x.undo(), false);
    }

    /** Promise 37: "NONE, doing nothing, if nothing was, or there is no such BOX." */
    private static void backNone() {
        RoundRows x = Due.stored(TEXT);
        x.read(1, 1, 9, 0, 0);
        x.read(1, 2, 8, 0, 0);
        x.undo();
        long state = Due.stateOf(x);
        for (int box : new int[] {0, 1, -1, 2, INT_MOST, INT_LEAST}) {
            Due.due("back(" + box + ")", x.back(box), -1);
            Due.due("nothing is done", Due.stateOf(x) == state, true);
        }
        x.image(1);
        Due.due("the other BOX", x.back(0), -1);
        Due.due("nothing is done", Due.stateOf(x) == state, true);
        Due.due("redo", x.redo(), true);
        Due.due("that BOX", x.back(1), 1);
        // a STORE empties both; a FAULT does not
        Due.put(x, "?");
        x.store();
        Due.due("behind a FAULT", x.back(1), 1);
        x.image(0);
        x.store();
        Due.due("behind a STORE", x.back(0), -1);
        Due.due("behind a STORE", x.back(1), -1);
    }

    // ---- Promise 38

    /**
     * Promise 38: "What 0: step, 1: MEASURES, 2: ARCHIVES, 3: SHOWS, 4: FORECASTS, as bits of their MEASURES, 5: TIME, 6: STEPS that are
     * over, 7: READINGS, 8: units of SHOWS, 9: ACTS that can be taken back, 10: done again, 11: bytes on the TAPE."
     */
    private static void aboutTells() {
        abouts("new", new RoundRows(), 1, 0, 0, 0, 0, 0, 0, 0, 0, 0, 0, 0);
        RoundRows x = Due.stored(TEXT);
        abouts("stored", x, 2, 2, 2, 1, 1, 0, 0, 0, 3, 0, 0, 0);
        x.read(1, 1, 1, 0, 0);
        abouts("a unit", x, 2, 2, 2, 1, 1, 1, 0, 1, 3, 1, 0, 0);
        x.read(1, 1, 1, 0, 0);
        abouts("a STEP", x, 2, 2, 2, 1, 1, 2, 1, 2, 3, 2, 0, 0);
        x.turn(0, 0, 1);
        abouts("a turn", x, 2, 2, 2, 1, 1, 2, 1, 2, 3, 3, 0, 0);
        x.read(1000, 1, 1, 0, 0);
        x.undo();
        x.undo();
        x.undo();
        Due.put(x, "12345");
        abouts("three taken back", x, 2, 2, 2, 1, 1, 1, 0, 1, 3, 1, 3, 5);
        RoundRows most = Due.stored("step 60; measure a gauge silence 1; measure b gauge silence 1; measure c gauge silence 1;"
                + "measure d gauge silence 1; forecast a season 2 by 1 1 1 band 1; forecast d season 2 by 1 1 1 band 1;"
                + "archive mean 1 by 1 share 0; archive mean 1 by 1 share 0; archive mean 1 by 1 share 0; archive mean 1 by 1 share 0;"
                + "show p = 1; show q = (p); show r = ((q)); show s = 1" + " + 1".repeat(23) + ";");
        Due.put(most, " ".repeat(1000));
        abouts("the most", most, 60, 4, 4, 4, 9, 0, 0, 0, 30, 0, 0, 1000);
        for (int i = 0; i < 100; i++) {
            most.read(1000, 1, 1, 1, 1);
        }
        abouts("at the last TIME", most, 60, 4, 4, 4, 9, 100_000, 1666, 100, 30, 12, 0, 1000);
    }

    private static void abouts(String of, RoundRows x, int... want) {
        for (int what = 0; what < want.length; what++) {
            Due.due(of + ": about(" + what + ")", x.about(what), want[what]);
        }
    }

    /** Promise 38: "NONE for another what." */
    private static void aboutNone() {
        for (RoundRows x : new RoundRows[] {new RoundRows(), Due.stored(TEXT)}) {
            for (int what : new int[] {-1, 12, 13, INT_MOST, INT_LEAST}) {
                Due.due("about(" + what + ")", x.about(what), -1);
            }
            Due.due("about(11)", x.about(11), 0);
        }
    }
}
