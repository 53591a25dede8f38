/** Promises 1 to 5: a new object, the tape, stores and their faults. */
public final class TextTest {
    private static final String G = "measure g gauge silence 1;";

    public static void main(String[] args) {
        newObject();
        tape();
        empty();
        faultOfTokens();
        faultOfNumbers();
        faultOfNames();
        faultOfMany();
        names();
        goodTexts();
        leastFaultOfAPlace();
        stores();
        Due.finish();
    }

    private static void newObject() {
        RoundRows x = new RoundRows();
        Due.due("new about(0)", x.about(0), 1);
        for (int what = 1; what <= 11; what++) {
            Due.due("new about " + what, x.about(what), 0);
        }
        Due.due("new fault(0)", x.fault(0), 0);
        Due.due("new fault(1)", x.fault(1), -1);
        Due.due("new fault(2)", x.fault(2), -1);
        Due.due("new fault(-1)", x.fault(-1), -1);
        Due.due("new undo", x.undo(), false);
        Due.due("new redo", x.redo(), false);
        Due.due("new back", x.back(0), -1);
        Due.due("new measure", x.measure(0, 0), -1);
        Due.due("new rate", x.rate(0), RoundRows.UNKNOWN);
        Due.due("new read", x.read(7, 0, 0, 0, 0), 7);
    }

    private static void tape() {
        RoundRows x = new RoundRows();
        Due.due("end(0)", x.end(0), 0);
        Due.due("end(1)", x.end(1), -1);
        for (int i = 1; i <= 50; i++) {
            Due.due("feed " + i, x.feed(-1, 0, 1, 2, 3), 20 * i);
        }
        Due.due("feed 51", x.feed(1, 2, 3, 4, 5), -1);
        Due.due("full tape", x.about(11), 1000);
        Due.due("end(1001)", x.end(1001), -1);
        Due.due("end(-1)", x.end(-1), -1);
        Due.due("tape as it was", x.about(11), 1000);
        Due.due("end(981)", x.end(981), 981);
        Due.due("feed at 981", x.feed(1, 2, 3, 4, 5), -1);
        Due.due("end(980)", x.end(980), 980);
        Due.due("feed at 980", x.feed(1, 2, 3, 4, 5), 1000);
        Due.due("end(3)", x.end(3), 3);
        Due.due("end(4)", x.end(4), -1);
        Due.due("byte above 127 stands first", x.store(), -1);
        Due.due("its fault", x.fault(0), 1);
        Due.due("its place", x.fault(1), 0);
        Due.due("tape is empty", x.about(11), 0);
        // "st" "ep" over a number's edge, the highest byte of a number first
        x.feed(0x20202073, 0x74657020, 0x37203b20, 0x20202020, 0x20202020);
        Due.due("store over an edge", x.store(), 0);
        Due.due("its step", x.about(0), 7);
        // what end() cuts off does not come again
        Due.put(x, "step 5; step");
        x.end(7);
        Due.due("cut store", x.store(), 0);
        Due.due("its step", x.about(0), 5);
        Due.put(x, "step 5; show s = 12345;");
        x.end(18);
        Due.due("cut in a number", x.store(), -1);
        Due.due("its place", x.fault(1), 18);
        Due.put(x, "step 5; measure gg gauge silence 1; show t = gg;");
        x.end(17);
        Due.due("cut in a word", x.store(), -1);
        Due.due("its place", x.fault(1), 17);
        for (String sign : new String[] {"(", "7", "s", ";"}) {
            Due.put(x, "step 5;" + sign.repeat(993));
            Due.due("tape is full", x.about(11), 1000);
            Due.due("full of " + sign, x.store(), -1);
            Due.due("its fault", x.fault(0), 1);
            Due.due("its place", x.fault(1), 7);
            Due.put(x, sign.repeat(1000));
            Due.due("full of " + sign, x.store(), -1);
            Due.due("its place", x.fault(1), 0);
        }
        Due.put(x, "step 5; show s = 0" + " ".repeat(981) + "7");
        Due.due("a number at the tape's end", x.store(), -1);
        Due.due("its place", x.fault(1), 999);
        Due.put(x, "step 5; show s = " + "0".repeat(982) + "7");
        Due.due("a number up to the tape's end", x.store(), -1);
        Due.due("its place", x.fault(1), 1000);
        Due.put(x, "step 5; show s = " + "0".repeat(981) + "7;");
        Due.due("a long number", x.store(), 0);
        Due.put(x, "step 6");
        Due.put(x, "0 ;");
        Due.due("two feeds", x.store(), 0);
        Due.due("60", x.about(0), 60);
    }

    private static void empty() {
        RoundRows x = Due.stored("step 9;" + G);
        Due.due("empty store", x.store(), 0);
        Due.due("step", x.about(0), 1);
        Due.due("measures", x.about(1), 0);
        x = Due.stored("step 9;" + G);
        Due.put(x, " \n \n ");
        Due.due("blank store", x.store(), 0);
        Due.due("step", x.about(0), 1);
        Due.due("fault", x.fault(0), 0);
        Due.put(x, "step 8;" + G);
        x.store();
        Due.due("empty store behind two", x.store(), 0);
        Due.due("step", x.about(0), 1);
    }

    private static void fault(String text, int what, int place) {
        RoundRows x = Due.stored("step 3; measure old gauge silence 7;");
        x.read(2, 5, 0, 0, 0);
        x.image(1);
        Due.put(x, text);
        Due.due("store " + text, x.store(), -1);
        Due.due("fault of " + text, x.fault(0), what);
        Due.due("place of " + text, x.fault(1), place);
        Due.due("other of " + text, x.fault(2), -1);
        Due.due("all stays: tape " + text, x.about(11), 0);
        Due.due("all stays: step " + text, x.about(0), 3);
        Due.due("all stays: time " + text, x.about(5), 2);
        Due.due("all stays: silence " + text, x.measure(0, 0), 7);
        Due.due("all stays: units " + text, x.measure(0, 4), 2);
        Due.due("all stays: acts " + text, x.about(9), 1);
        Due.due("all stays: box " + text, x.back(1), 2);
        Due.put(x, "step 4;");
        Due.due("good behind " + text, x.store(), 0);
        Due.due("its fault", x.fault(0), 0);
        Due.due("its place", x.fault(1), -1);
    }

    /** A fault where the mark | stands (which is taken out). */
    private static void faultAt(String text, int what) {
        int at = text.indexOf('|');
        fault(text.substring(0, at) + text.substring(at + 1), what, at);
    }

    private static void faultOfTokens() {
        faultAt("|measure g gauge silence 1;", 1);
        faultAt("  \n|show s = 1;", 1);
        faultAt("|5", 1);
        faultAt("|steps 1;", 1);
        faultAt("|Step 1;", 1);
        faultAt("step |one;", 1);
        faultAt("step 1|", 1);
        faultAt("step|", 1);
        faultAt("step 1 |measure g gauge silence 1;", 1);
        faultAt("step 1; |step 1;", 1);
        faultAt("step 1;" + G + "|step 1;", 1);
        faultAt("step 1;|;", 1);
        faultAt("step 1; |other", 1);
        faultAt("step 1; |7", 1);
        faultAt("step 1;|\t", 1);
        faultAt("step 1;|" + (char) 13, 1);
        faultAt("step |-1;", 1);
        faultAt("step 1; |.", 1);
        faultAt("step 1; |# " + (char) 233, 1);
        faultAt("step 1; measure |5 gauge silence 1;", 1);
        faultAt("step 1; measure |gauge gauge silence 1;", 1);
        faultAt("step 1; measure g |mean silence 1;", 1);
        faultAt("step 1; measure g |g silence 1;", 1);
        faultAt("step 1; measure g gauge |4 silence 1;", 1);
        faultAt("step 1; measure g counter |silence 1;", 1);
        faultAt("step 1; measure g counter 8 |silence 1;", 1);
        faultAt("step 1; measure g counter 8 9 |10 silence 1;", 1);
        faultAt("step 1; measure g gauge |least 1;", 1);
        faultAt("step 1; measure g gauge silence |least 1;", 1);
        faultAt("step 1; measure g gauge silence 1 least |;", 1);
        faultAt("step 1; measure g gauge silence 1 most 5 |least 1;", 1);
        faultAt("step 1; measure g gauge silence 1 least 5 |least 6;", 1);
        faultAt("step 1; measure g gauge silence 1 most 5 |most 6;", 1);
        faultAt("step 1; measure g gauge silence 1|", 1);
        faultAt("step 1; archive |average 1 by 1 share 0;", 1);
        faultAt("step 1; archive |silence 1 by 1 share 0;", 1);
        faultAt("step 1; archive mean |by 1 share 0;", 1);
        faultAt("step 1; archive mean 1 |1 share 0;", 1);
        faultAt("step 1; archive mean 1 by |share 0;", 1);
        faultAt("step 1; archive mean 1 by 1 |0;", 1);
        faultAt("step 1; archive mean 1 by 1 share |;", 1);
        faultAt("step 1; archive mean 1 by 1 share 0 |0;", 1);
        String forecast = "step 1;" + G + "forecast ";
        faultAt(forecast + "|season 2 by 1 1 1 band 1;", 1);
        faultAt(forecast + "g |by 1 1 1 band 1;", 1);
        faultAt(forecast + "g season |by 1 1 1 band 1;", 1);
        faultAt(forecast + "g season 2 |1 1 1 band 1;", 1);
        faultAt(forecast + "g season 2 by 1 1 |band 1;", 1);
        faultAt(forecast + "g season 2 by 1 1 1 |1 band 1;", 1);
        faultAt(forecast + "g season 2 by 1 1 1 band |;", 1);
        faultAt("step 1; show |1 = 1;", 1);
        faultAt("step 1; show |or = 1;", 1);
        faultAt("step 1; show s |1;", 1);
        faultAt("step 1; show s = |;", 1);
        faultAt("step 1; show s = 1 |1;", 1);
        faultAt("step 1; show s = 1 + |;", 1);
        faultAt("step 1; show s = 1 + |* 2;", 1);
        faultAt("step 1; show s = |- 2;", 1);
        faultAt("step 1; show s = |or 2;", 1);
        faultAt("step 1; show s = 2 or |or 2;", 1);
        faultAt("step 1; show s = (|);", 1);
        faultAt("step 1; show s = (1|;", 1);
        faultAt("step 1; show s = (1 + (2)|;", 1);
        faultAt("step 1; show s = 1|);", 1);
        faultAt("step 1; show s = (1)|);", 1);
        faultAt("step 1; show s = 1 |(2);", 1);
        faultAt("step 1; show s = |least;", 1);
        faultAt("step 1; show s = 1 |= 1;", 1);
        faultAt("step 1; show s = 1 +|", 1);
        faultAt("step 1; show s = 1   |", 1);
    }

    private static void faultOfNumbers() {
        faultAt("step |0;", 2);
        faultAt("step |61;", 2);
        faultAt("step |99999999999999999999999999999999;", 2);
        faultAt("step |4294967297;", 2);
        faultAt("step 1; measure g gauge silence |0;", 2);
        faultAt("step 1; measure g gauge silence |1001;", 2);
        faultAt("step 1; measure g gauge silence 1 least |1000000;", 2);
        faultAt("step 1; measure g gauge silence 1 most |1000000;", 2);
        faultAt("step 1; measure g gauge silence 1 least 6 most |5;", 2);
        faultAt("step 1; measure g counter |3 9 silence 1;", 2);
        faultAt("step 1; measure g counter |21 22 silence 1;", 2);
        faultAt("step 1; measure g counter 4 |4 silence 1;", 2);
        faultAt("step 1; measure g counter 5 |4 silence 1;", 2);
        faultAt("step 1; measure g counter 5 |21 silence 1;", 2);
        faultAt("step 1; measure g counter 20 |20 silence 1;", 2);
        faultAt("step 1; archive mean |0 by 1 share 0;", 2);
        faultAt("step 1; archive mean |13 by 1 share 0;", 2);
        faultAt("step 1; archive mean 1 by |0 share 0;", 2);
        faultAt("step 1; archive mean 1 by |31 share 0;", 2);
        faultAt("step 1; archive mean 1 by 1 share |10;", 2);
        String forecast = "step 1;" + G + "forecast g season ";
        faultAt(forecast + "|1 by 1 1 1 band 1;", 2);
        faultAt(forecast + "|25 by 1 1 1 band 1;", 2);
        faultAt(forecast + "2 by |17 1 1 band 1;", 2);
        faultAt(forecast + "2 by 1 |17 1 band 1;", 2);
        faultAt(forecast + "2 by 1 1 |17 band 1;", 2);
        faultAt(forecast + "2 by 1 1 1 band |0;", 2);
        faultAt(forecast + "2 by 1 1 1 band |10;", 2);
        faultAt("step 1; show s = |10000;", 2);
        faultAt("step 1; show s = 1 + (|1000000000000);", 2);
    }

    private static void faultOfNames() {
        faultAt("step 1;" + G + "measure |g gauge silence 1;", 3);
        faultAt("step 1; show s = 1; measure |s gauge silence 1;", 3);
        faultAt("step 1;" + G + "show |g = 1;", 3);
        faultAt("step 1; show s = 1; show |s = 1;", 3);
        faultAt("step 1; show s = |s;", 3);
        faultAt("step 1; show s = 1 + |g;" + G, 3);
        faultAt("step 1;" + G + "show s = g + |gg;", 3);
        faultAt("step 1;" + G + "show s = g + |h;", 3);
        faultAt("step 1; measure gg gauge silence 1; show s = |g;", 3);
        faultAt("step 1; forecast |g season 2 by 1 1 1 band 1;" + G, 3);
        faultAt("step 1; show s = 1; forecast |s season 2 by 1 1 1 band 1;", 3);
        faultAt("step 1;" + G + "forecast g season 2 by 1 1 1 band 1; forecast |g season 2 by 1 1 1 band 1;", 3);
    }

    private static void faultOfMany() {
        String measures = "measure a gauge silence 1; measure b gauge silence 1; measure c gauge silence 1; measure d gauge silence 1;";
        faultAt("step 1;" + measures + "|measure e gauge silence 1;", 4);
        faultAt("step 1;" + measures + "|measure a gauge", 4);
        String archives = "archive mean 1 by 1 share 0;".repeat(4);
        faultAt("step 1;" + archives + "|archive mean 1 by 1 share 0;", 4);
        String shows = "show p = 1; show q = 1; show r = 1; show s = 1;";
        faultAt("step 1;" + shows + "|show e = 1;", 4);
        faultAt("step 1; show s = 1" + " + 1".repeat(29) + " + |1;", 4);
        faultAt("step 1; show s = (1)" + " + (1)".repeat(14) + " + |(1);", 4);
        faultAt("step 1; show a = 1" + " * 1".repeat(19) + "; show b = 1" + "/1".repeat(9) + "; show c = |a;", 4);
        faultAt("step 1; show s = (((((|1)))));", 4);
        faultAt("step 1; show s = (((((|(1))))));", 4);
        faultAt("step 1; show s = 1 + ((2) * (3 - (1 or (4 + (|1)))));", 4);
        RoundRows x = Due.stored("step 1;" + measures + archives + shows);
        Due.due("four measures", x.about(1), 4);
        Due.due("four archives", x.about(2), 4);
        Due.due("four shows", x.about(3), 4);
        x = Due.stored("step 1; show s = 1" + " + 1".repeat(29) + ";");
        Due.due("thirty units", x.about(8), 30);
        x = Due.stored("step 1; show s = ((((1)))) + ((((2)))) ;");
        Due.due("ten units", x.about(8), 10);
    }

    private static void names() {
        // the words of the document's own rules that stand for others are names like any other
        RoundRows x = Due.stored("step 1; measure line gauge silence 1; measure sort gauge silence 1; measure how gauge silence 1;"
                + "measure name gauge silence 1; show e = 1; show sum = e; show term = sum; show unit = term;");
        Due.due("names", x.about(1), 4);
        String[] words = {"step", "measure", "silence", "least", "most", "archive", "by", "share", "forecast", "season",
            "band", "show", "gauge", "amount", "counter", "mean", "latest", "or"};
        for (String word : words) {
            faultAt("step 1; measure |" + word + " gauge silence 1;", 1);
            faultAt("step 1; show |" + word + " = 1;", 1);
            Due.stored("step 1; measure " + word + "x gauge silence 1;");
            Due.stored("step 1; measure x" + word + " gauge silence 1;");
            if (word.length() > 2) {
                Due.stored("step 1; measure " + word.substring(1) + " gauge silence 1;");
                Due.stored("step 1; measure " + word.substring(0, word.length() - 2) + "zz gauge silence 1;");
            }
        }
        // words are as long as can be, and signs part them
        Due.stored("step1;measure g gauge silence 1least 2most 3;show s=g+1or g*(2);");
        faultAt("step 1; measure bandshow |gauges silence 1;", 1);
    }

    private static void goodTexts() {
        RoundRows x = Due.stored("step 60; measure g gauge silence 1000 least 0 most 0; measure a amount silence 1 least 999999;"
                + "measure c counter 4 20 silence 007 most 999999; archive mean 12 by 30 share 9; archive most 1 by 1 share 0;"
                + "archive least 2 by 3 share 4; archive latest 5 by 6 share 7; forecast c season 24 by 16 0 16 band 9;"
                + "forecast g season 2 by 0 16 0 band 1; show s = 9999; show t = (g or (a + c)) * s / 0 - 1;");
        Due.due("step", x.about(0), 60);
        Due.due("measures", x.about(1), 3);
        Due.due("archives", x.about(2), 4);
        Due.due("shows", x.about(3), 2);
        Due.due("forecasts", x.about(4), 5);
        Due.due("units", x.about(8), 9);
        int[][] measures = {{1000, 0, 0, 0}, {1, 999999, 999999, 1}, {7, 0, 999999, 2}};
        for (int m = 0; m < 3; m++) {
            for (int what = 0; what < 4; what++) {
                Due.due("measure " + m + " " + what, x.measure(m, what), measures[m][what]);
            }
        }
        int[][] archives = {{0, 12, 30, 9, 0, -1, 0, -1}, {1, 1, 1, 0, 0, -1, 0, -1}, {2, 2, 3, 4, 0, -1, 0, -1}, {3, 5, 6, 7, 0, -1, 0, -1}};
        for (int a = 0; a < 4; a++) {
            for (int what = 0; what < 8; what++) {
                Due.due("archive " + a + " " + what, x.archive(a, what), archives[a][what]);
            }
        }
        Due.due("season", x.forecast(2, 3), 24);
        Due.due("band", x.forecast(2, 4), 9);
        Due.due("season", x.forecast(0, 3), 2);
        Due.due("band", x.forecast(0, 4), 1);
        Due.due("no forecast", x.forecast(1, 3), RoundRows.UNKNOWN);
    }

    private static void leastFaultOfAPlace() {
        String full = "step 1; show s = 1" + " + 1".repeat(29) + " + ";
        faultAt(full + "|10000;", 2);
        faultAt(full + "|t;", 3);
        faultAt(full + "|;", 1);
        faultAt("step 1; show s = (((((|10000)))));", 2);
        faultAt("step 1; show s = (((((|t)))));", 3);
        faultAt("step 1; show s = (((((|))))));", 1);
        // the first by its place, not the least
        faultAt("step |61; ?", 2);
    }

    private static void stores() {
        RoundRows x = Due.stored("step 2; measure g gauge silence 5; archive mean 1 by 5 share 0; forecast g season 2 by 8 8 8 band 1;");
        x.read(5, 9, 0, 0, 0);
        x.turn(0, 0, 4);
        x.image(0);
        x.undo();
        Due.put(x, "step 3; measure h amount silence 6; archive most 2 by 2 share 0; forecast h season 3 by 8 8 8 band 1;");
        Due.due("store again", x.store(), 1);
        int[] about = {3, 1, 1, 0, 1, 0, 0, 0, 0, 0, 0, 0, -1};
        for (int what = 0; what < about.length; what++) {
            Due.due("all anew: about " + what, x.about(what), about[what]);
        }
        Due.due("no undo", x.undo(), false);
        Due.due("no redo", x.redo(), false);
        Due.due("box is empty", x.back(0), -1);
        Due.due("rate anew", x.rate(0), RoundRows.UNKNOWN);
        Due.due("value anew", x.value(0), RoundRows.UNKNOWN);
        Due.due("units anew", x.measure(0, 4), 0);
        Due.due("row anew", x.row(0, 0, 0), RoundRows.UNKNOWN);
        Due.due("forecast anew", x.forecast(0, 2), 0);
        Due.due("level anew", x.forecast(0, 0), 0);
        Due.due("kept anew", x.forecast(0, 5), 0);
        formulasAnew(x);
    }

    /** What earlier texts, good ones and bad ones, left behind does not come into later formulas. */
    private static void formulasAnew(RoundRows x) {
        Due.put(x, "step 1; show s = 1 + 2 * (3 - ");
        x.store();
        for (int k = 0; k < 4; k++) {
            Due.put(x, "step 1; archive mean 1 by 1 share 0; show s = " + k + " + 1".repeat(29) + ";");
            Due.due("store " + k, x.store(), 0);
            x.read(1, 0, 0, 0, 0);
            Due.due("show of store " + k, x.show(0, 0, 0), 1000 * (29 + k));
            Due.put(x, "step 1; show s = 1 or 2 + 3 * ;");
            x.store();
        }
    }
}
