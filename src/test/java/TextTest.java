/** The document's sentences of texts, each with its boundary cases: the terms' first block, promises 1 to 5. */
public final class TextTest {
    private static final int U = RoundRows.UNKNOWN;
    private static final String G = "measure g gauge silence 1;";
    private static final String FOUR = "measure a gauge silence 1; measure b gauge silence 2; measure c gauge silence 3; measure d gauge silence 4;";
    private static final String[] WORDS = {"step", "measure", "silence", "least", "most", "archive", "by", "share", "forecast",
        "season", "band", "show", "gauge", "amount", "counter", "mean", "latest", "or"};

    public static void main(String[] args) {
        thousandBytes();
        fullOfOneSign();
        linesTokens();
        allLines();
        sorts();
        hows();
        formulas();
        bytesOfTokens();
        longTokens();
        wordsAreNoNames();
        stepFirst();
        fourMeasures();
        silences();
        bounds();
        widths();
        fourArchives();
        oneForecast();
        forecastNumbers();
        fourShows();
        thirtyUnits();
        thirtyUnitsTell();
        constants();
        namesAhead();
        withinFour();
        nameOnce();
        firstFault();
        placeOfFault();
        leastFault();
        faultOfTokens();
        faultOfNumbers();
        faultOfNames();
        faultOfMany();
        emptyText();
        newObject();
        feedsTwenty();
        feedsThousand();
        endsWithin();
        endCuts();
        storeTakesTheTape();
        storeBeginsAnew();
        storeAtAFault();
        faultOfTheLatest();
        faultOfNoWhat();
        Due.finish();
    }

    /** A number that can be from least to most: both are good, one less and one more are a FAULT 2 there. */
    private static void limits(String ahead, int least, int most, String behind) {
        Due.stored(ahead + least + behind);
        Due.stored(ahead + most + behind);
        if (least > 0) {
            Due.faultAt(ahead + "|" + (least - 1) + behind, 2);
        } else {
            Due.faultAt(ahead + "|-1" + behind, 1);
        }
        Due.faultAt(ahead + "|" + (most + 1) + behind, 2);
        // far beyond what an int holds, and back among those that can be if it wrapped around
        Due.faultAt(ahead + "|" + ((1L << 32) + least) + behind, 2);
        Due.faultAt(ahead + "|" + "9".repeat(40) + behind, 2);
    }

    /** A line of these tokens is good; cut short ahead of any of them, or with another TOKEN there, it is a FAULT 1 there. */
    private static void line(String ahead, String tokens) {
        Due.stored(ahead + tokens);
        String[] all = tokens.split(" ");
        StringBuilder text = new StringBuilder(ahead);
        for (int k = 0; k < all.length; k++) {
            if (k > 0) {
                Due.faultAt(text + "|", 1);
                for (String other : "step measure silence archive by share forecast season band show or = ( ) + - * / ; 1 zz".split(" ")) {
                    if (!other.equals(all[k]) && !sameKind(other, all[k])) {
                        Due.faultAt(text + "|" + other, 1);
                        // the rest of the line does not mend it
                        Due.faultAt(text + "|" + other + tokens.substring(text.length() - ahead.length() + all[k].length()), 1);
                    }
                }
            }
            text.append(all[k]).append(' ');
        }
    }

    private static boolean sameKind(String one, String other) {
        return one.equals("1") && Character.isDigit(other.charAt(0)) || one.equals("zz") && other.equals("g")
                || one.equals(";") && (other.equals("least") || other.equals("most"));
    }

    // ---- Terms

    /** Terms: "A STORE is a text of at most 1,000 bytes: {line}." */
    private static void thousandBytes() {
        RoundRows x = Due.stored("step 7;" + " ".repeat(991) + " \n");
        Due.due("step of a text of 1,000 bytes", x.about(0), 7);
        Due.faultAt("step 7;" + " ".repeat(992) + "|;", 1);
        Due.faultAt("step 7;" + " ".repeat(987) + "|measur", 1);
        Due.faultAt("step 7;" + " ".repeat(986) + "measure|", 1);
        Due.faultAt("step 7; show s =" + " ".repeat(980) + "9999|", 1);
        Due.faultAt("step 7; show s =" + " ".repeat(979) + "|10000", 2);
        Due.put(x, "step 8;" + " ".repeat(993));
        Due.due("a byte beyond 1,000", x.feed(';' << 24, 0, 0, 0, 0), -1);
        Due.due("without it", x.store(), 0);
        Due.due("step", x.about(0), 8);
    }

    /** Terms: "A STORE is a text of at most 1,000 bytes" */
    private static void fullOfOneSign() {
        for (String sign : new String[] {"(", "7", "s", ";"}) {
            Due.faultAt("|" + sign.repeat(1000), 1);
            Due.faultAt("step 5;|" + sign.repeat(993), 1);
        }
        Due.faultAt("step 5; show s = (((((|" + "(".repeat(978), 4);
        Due.faultAt("step 5; show s = |" + "7".repeat(983), 2);
        Due.faultAt("step 5; show s = |" + "s".repeat(983), 3);
        Due.stored("step 5; show " + "s".repeat(982) + "=1;");
    }

    /**
     * Terms: "line = step N ; | measure NAME sort silence N [least N] [most N] ; | archive how N by N share N ; |
     * forecast NAME season N by N N N band N ; | show NAME = e ;."
     */
    private static void linesTokens() {
        line("", "step 1 ;");
        line("step 1; ", "measure g gauge silence 1 ;");
        line("step 1; ", "measure g gauge silence 1 least 2 most 3 ;");
        line("step 1; ", "archive mean 1 by 2 share 3 ;");
        line("step 1; " + G, "forecast g season 2 by 1 1 1 band 1 ;");
        Due.stored("step 1; show s = 1;");
        for (String cut : new String[] {"show", "show s", "show s =", "show s = 1"}) {
            Due.faultAt("step 1; " + cut + "|", 1);
            Due.faultAt("step 1; " + cut + " |)", 1);
        }
        // what stands in [ ] is there once or not at all, least ahead of most
        Due.stored("step 1; measure g gauge silence 1 least 2;");
        Due.stored("step 1; measure g gauge silence 1 most 2;");
        Due.stored("step 1; measure g gauge silence 1 least 2 most 2;");
        Due.faultAt("step 1; measure g gauge silence 1 most 2 |least 2;", 1);
        Due.faultAt("step 1; measure g gauge silence 1 least 2 |least 2;", 1);
        Due.faultAt("step 1; measure g gauge silence 1 most 2 |most 2;", 1);
        Due.faultAt("step 1; measure g gauge silence 1 least |most 2;", 1);
        Due.faultAt("step 1; measure g gauge silence 1 least 2 most |;", 1);
        Due.faultAt("step 1; measure g gauge silence 1 least 2 |2;", 1);
        Due.faultAt("step 1; measure g gauge |least 2;", 1);
        Due.faultAt("step 1; measure g gauge |most 2;", 1);
    }

    /** Terms: "{line}" */
    private static void allLines() {
        RoundRows x = Due.stored("step 60; measure g gauge silence 1000 least 0 most 0; measure a amount silence 1 least 999999;"
                + "measure c counter 4 20 silence 007 most 999999; archive mean 12 by 30 share 9; archive most 1 by 1 share 0;"
                + "archive least 2 by 3 share 4; archive latest 5 by 6 share 7; forecast c season 24 by 16 0 16 band 9;"
                + "forecast g season 2 by 0 16 0 band 1; show s = 9999; show t = (g or (a + c)) * s / 0 - 1;");
        int[] about = {60, 3, 4, 2, 5, 0, 0, 0, 9, 0, 0, 0};
        for (int what = 0; what < about.length; what++) {
            Due.due("about(" + what + ")", x.about(what), about[what]);
        }
        int[][] measures = {{1000, 0, 0, 0}, {1, 999_999, 999_999, 1}, {7, 0, 999_999, 2}};
        for (int m = 0; m < 3; m++) {
            for (int what = 0; what < 4; what++) {
                Due.due("measure " + m + " " + what, x.measure(m, what), measures[m][what]);
            }
        }
        int[][] archives = {{0, 12, 30, 9}, {1, 1, 1, 0}, {2, 2, 3, 4}, {3, 5, 6, 7}};
        for (int a = 0; a < 4; a++) {
            for (int what = 0; what < 4; what++) {
                Due.due("archive " + a + " " + what, x.archive(a, what), archives[a][what]);
            }
        }
        int[][] forecasts = {{2, 1}, {U, U}, {24, 9}};
        for (int m = 0; m < 3; m++) {
            Due.due("season of " + m, x.forecast(m, 3), forecasts[m][0]);
            Due.due("band of " + m, x.forecast(m, 4), forecasts[m][1]);
        }
    }

    /** Terms: "sort = gauge | amount | counter N N." */
    private static void sorts() {
        for (String word : WORDS) {
            if (!word.equals("gauge") && !word.equals("amount") && !word.equals("counter")) {
                Due.faultAt("step 1; measure g |" + word + " silence 1;", 1);
            }
        }
        Due.faultAt("step 1; measure g |g silence 1;", 1);
        Due.faultAt("step 1; measure g |4 silence 1;", 1);
        Due.stored("step 1; measure g counter 4 5 silence 1;");
        Due.faultAt("step 1; measure g counter |silence 1;", 1);
        Due.faultAt("step 1; measure g counter 4 |silence 1;", 1);
        Due.faultAt("step 1; measure g counter 4 5 |6 silence 1;", 1);
        Due.faultAt("step 1; measure g gauge |4 5 silence 1;", 1);
        Due.faultAt("step 1; measure g amount |4 5 silence 1;", 1);
    }

    /** Terms: "how = mean | most | least | latest." */
    private static void hows() {
        for (String word : WORDS) {
            if (!word.equals("mean") && !word.equals("most") && !word.equals("least") && !word.equals("latest")) {
                Due.faultAt("step 1; archive |" + word + " 1 by 1 share 1;", 1);
            }
        }
        Due.faultAt("step 1; archive |average 1 by 1 share 1;", 1);
        Due.faultAt("step 1; archive |0 1 by 1 share 1;", 1);
    }

    /**
     * Terms: "e = sum {or sum}. sum = term {(+ | -) term}. term = unit {(* | /) unit}. unit = N | NAME | ( e )."
     */
    private static void formulas() {
        Due.stored("step 1;" + G + "show s = 1; show t = g; show u = (1); show v = 1 or g + 2 - 3 * (g / 4 or 5) or s;");
        for (String sign : new String[] {"or", "+", "-", "*", "/"}) {
            Due.stored("step 1; show s = 1 " + sign + " 2 " + sign + " 3;");
            Due.faultAt("step 1; show s = |" + sign + " 2;", 1);
            Due.faultAt("step 1; show s = 1 " + sign + " |;", 1);
            Due.faultAt("step 1; show s = 1 " + sign + " |" + sign + " 2;", 1);
            Due.faultAt("step 1; show s = (|" + sign + " 2);", 1);
            Due.faultAt("step 1; show s = (1 " + sign + " |);", 1);
            Due.faultAt("step 1; show s = 1 " + sign + "|", 1);
        }
        Due.faultAt("step 1; show s = |;", 1);
        Due.faultAt("step 1; show s = (|);", 1);
        Due.faultAt("step 1; show s = (1|;", 1);
        Due.faultAt("step 1; show s = ((1)|;", 1);
        Due.faultAt("step 1; show s = 1|);", 1);
        Due.faultAt("step 1; show s = (1)|);", 1);
        Due.faultAt("step 1; show s = 1 |(2);", 1);
        Due.faultAt("step 1; show s = (1) |2;", 1);
        Due.faultAt("step 1; show s = 1 |2;", 1);
        Due.faultAt("step 1; show s = 1 |= 2;", 1);
    }

    /**
     * Terms: "TOKENS, blanks (32, 10) aside, each as long as can be: words (a .. z), numbers (digits), the signs ; = ( ) + - * / ."
     */
    private static void bytesOfTokens() {
        for (int b = 0; b < 256; b++) {
            char c = (char) b;
            // behind a word: blanks part, a letter makes it longer, a digit is another token, all else can't stand there
            if (b == 32 || b == 10 || c >= '0' && c <= '5') {
                RoundRows x = Due.stored("step" + c + "7;");
                Due.due("step with byte " + b, x.about(0), c >= '0' ? (c - '0') * 10 + 7 : 7);
            } else if (c >= '6' && c <= '9') {
                Due.faultAt("step|" + c + "7;", 2);
            } else if (c >= 'a' && c <= 'z') {
                Due.faultAt("|step" + c + "7;", 1);
            } else {
                faultOfByte("step", c, "7;");
            }
            // between two units: only the signs of a formula can stand there
            if (c == '+' || c == '-' || c == '*' || c == '/') {
                Due.stored("step 7; show s = 1" + c + "1;");
            } else if (c == ';') {
                Due.faultAt("step 7; show s = 1;|1;", 1);
            } else if (b == 32 || b == 10) {
                Due.faultAt("step 7; show s = 1" + c + "|1;", 1);
            } else if (c >= '0' && c <= '9') {
                Due.stored("step 7; show s = 1" + c + "1;");
            } else {
                faultOfByte("step 7; show s = 1", c, "1;");
            }
        }
        // the signs that the document tells beside these can stand where a line asks for them
        Due.stored("step 7; show s=(1);");
    }

    /** A FAULT 1 at a byte, which may be the mark that Due.faultAt takes out. */
    private static void faultOfByte(String ahead, char c, String behind) {
        RoundRows x = new RoundRows();
        Due.put(x, ahead + c + behind);
        Due.due("store with byte " + (int) c, x.store(), -1);
        Due.due("fault of byte " + (int) c, x.fault(0), 1);
        Due.due("place of byte " + (int) c, x.fault(1), ahead.length());
    }

    /** Terms: "each as long as can be" */
    private static void longTokens() {
        Due.stored("step1;measure g gauge silence 1least 2most 3;show s=g+1or g*(2);");
        Due.faultAt("step 1; measure g |gaugesilence 1;", 1);
        Due.faultAt("step 1;|measureg gauge silence 1;", 1);
        Due.faultAt("step |61;", 2);
        Due.faultAt("step 6 |1;", 1);
        Due.faultAt("step 1; measure gg gauge silence 1; show s = |g g;", 3);
        Due.stored("step 0000000000000000000000000000000000060;");
    }

    /** Terms: "Words that stand for themselves here are no NAMES." */
    private static void wordsAreNoNames() {
        for (String word : WORDS) {
            Due.faultAt("step 1; measure |" + word + " gauge silence 1;", 1);
            Due.faultAt("step 1; show |" + word + " = 1;", 1);
            Due.faultAt("step 1; show s = |" + word + ";", 1);
            Due.faultAt("step 1; forecast |" + word + " season 2 by 1 1 1 band 1;", 1);
            // a letter more, ahead or behind, and a letter less are other words
            Due.stored("step 1; measure " + word + "s gauge silence 1; show t = " + word + "s;");
            Due.stored("step 1; measure x" + word + " gauge silence 1; forecast x" + word + " season 2 by 1 1 1 band 1;");
            Due.stored("step 1; show " + word.substring(1) + " = 1;");
            Due.stored("step 1; show " + word.substring(0, word.length() - 1) + " = 1;");
        }
        // words of the rules that stand for others
        Due.stored("step 1; measure line gauge silence 1; measure sort gauge silence 1; measure how gauge silence 1;"
                + "measure name gauge silence 1; show e = line; show sum = e; show term = sum; show unit = term;");
        Due.stored("step 1; show n = 1; show a = n; show z = a; show q = z;");
    }

    /** Terms: "step (1 .. 60) is the first line and no other one." */
    private static void stepFirst() {
        limits("step ", 1, 60, ";");
        Due.due("step 60", Due.stored("step 60;").about(0), 60);
        Due.faultAt("|" + G, 1);
        Due.faultAt("|archive mean 1 by 1 share 0;", 1);
        Due.faultAt("|forecast g season 2 by 1 1 1 band 1;", 1);
        Due.faultAt("|show s = 1; step 1;", 1);
        Due.faultAt("step 1; |step 1;", 1);
        Due.faultAt("step 1;" + G + "|step 2;", 1);
    }

    /** Terms: "At most 4 MEASURES, numbered as told" */
    private static void fourMeasures() {
        RoundRows x = Due.stored("step 1;" + FOUR);
        Due.due("measures", x.about(1), 4);
        for (int m = 0; m < 4; m++) {
            Due.due("silence " + m, x.measure(m, 0), m + 1);
        }
        Due.due("no fifth", x.measure(4, 0), -1);
        Due.faultAt("step 1;" + FOUR + "|measure e gauge silence 1;", 4);
        Due.due("three", Due.stored("step 1;" + FOUR.substring(0, FOUR.indexOf("measure d"))).about(1), 3);
    }

    /** Terms: "silence (SILENCE) 1 .. 1,000" */
    private static void silences() {
        limits("step 1; measure g gauge silence ", 1, 1000, ";");
        Due.due("1", Due.stored("step 1; measure g gauge silence 1;").measure(0, 0), 1);
        Due.due("1,000", Due.stored("step 1; measure g gauge silence 1000;").measure(0, 0), 1000);
    }

    /**
     * Terms: "least (0 if not told), most (999,999 if not told) 0 .. 999,999", "most no less than least"
     */
    private static void bounds() {
        limits("step 1; measure g gauge silence 1 least ", 0, 999_999, ";");
        limits("step 1; measure g gauge silence 1 most ", 0, 999_999, ";");
        limits("step 1; measure g gauge silence 1 least 5 most ", 5, 999_999, ";");
        limits("step 1; measure g gauge silence 1 least 999999 most ", 999_999, 999_999, ";");
        RoundRows x = Due.stored("step 1; measure a gauge silence 1; measure b gauge silence 1 least 7; measure c gauge silence 1 most 7;"
                + "measure d gauge silence 1 least 7 most 7;");
        int[][] want = {{0, 999_999}, {7, 999_999}, {0, 7}, {7, 7}};
        for (int m = 0; m < 4; m++) {
            Due.due("least " + m, x.measure(m, 1), want[m][0]);
            Due.due("most " + m, x.measure(m, 2), want[m][1]);
        }
    }

    /** Terms: "counter: two widths 4 .. 20, the second one greater." */
    private static void widths() {
        Due.stored("step 1; measure c counter 4 20 silence 1;");
        Due.stored("step 1; measure c counter 19 20 silence 1;");
        Due.faultAt("step 1; measure c counter |3 20 silence 1;", 2);
        limits("step 1; measure c counter 4 ", 5, 20, " silence 1;");
        limits("step 1; measure c counter 18 ", 19, 20, " silence 1;");
        limits("step 1; measure c counter 19 ", 20, 20, " silence 1;");
        // a first width of 20 can be, but no second one is greater
        Due.faultAt("step 1; measure c counter 20 |20 silence 1;", 2);
        Due.faultAt("step 1; measure c counter 20 |21 silence 1;", 2);
        Due.faultAt("step 1; measure c counter |21 22 silence 1;", 2);
        Due.faultAt("step 1; measure c counter |21 20 silence 1;", 2);
        Due.faultAt("step 1; measure c counter 9 |8 silence 1;", 2);
    }

    /**
     * Terms: "At most 4 ARCHIVES, numbered as told: PER 1 .. 12, by ROWS 1 .. 30, share (of tenths) 0 .. 9."
     */
    private static void fourArchives() {
        String four = "archive latest 1 by 1 share 1; archive least 2 by 2 share 2; archive most 3 by 3 share 3; archive mean 4 by 4 share 4;";
        RoundRows x = Due.stored("step 1;" + four);
        Due.due("archives", x.about(2), 4);
        for (int a = 0; a < 4; a++) {
            Due.due("how " + a, x.archive(a, 0), 3 - a);
            for (int what = 1; what < 4; what++) {
                Due.due("archive " + a, x.archive(a, what), a + 1);
            }
        }
        Due.faultAt("step 1;" + four + "|archive mean 1 by 1 share 0;", 4);
        limits("step 1; archive mean ", 1, 12, " by 1 share 0;");
        limits("step 1; archive mean 1 by ", 1, 30, " share 0;");
        limits("step 1; archive mean 1 by 1 share ", 0, 9, ";");
    }

    /** Terms: "At most one forecast of each MEASURE" */
    private static void oneForecast() {
        String behind = " season 2 by 1 1 1 band 1;";
        String four = "forecast d" + behind + "forecast a" + behind + "forecast c" + behind + "forecast b" + behind;
        Due.due("one of each", Due.stored("step 1;" + FOUR + four).about(4), 15);
        for (String name : new String[] {"a", "b", "c", "d"}) {
            Due.faultAt("step 1;" + FOUR + four + "forecast |" + name + behind, 3);
        }
    }

    /** Terms: "season 2 .. 24, by three weights 0 .. 16, band 1 .. 9." */
    private static void forecastNumbers() {
        String ahead = "step 1;" + G + "forecast g season ";
        limits(ahead, 2, 24, " by 1 1 1 band 1;");
        limits(ahead + "2 by ", 0, 16, " 1 1 band 1;");
        limits(ahead + "2 by 1 ", 0, 16, " 1 band 1;");
        limits(ahead + "2 by 1 1 ", 0, 16, " band 1;");
        limits(ahead + "2 by 1 1 1 band ", 1, 9, ";");
        Due.faultAt(ahead + "2 by 1 1 |band 1;", 1);
        Due.faultAt(ahead + "2 by 1 1 1 |1 band 1;", 1);
    }

    /** Terms: "At most 4 SHOWS, numbered as told, of 30 units together" */
    private static void fourShows() {
        String four = "show p = 1; show q = 2; show r = 3; show s = 4;";
        RoundRows x = Due.stored("step 1; archive mean 1 by 1 share 0;" + four);
        x.read(1, 0, 0, 0, 0);
        Due.due("shows", x.about(3), 4);
        for (int s = 0; s < 4; s++) {
            Due.due("show " + s, x.show(s, 0, 0), 1000 * (s + 1));
        }
        Due.faultAt("step 1;" + four + "|show t = 5;", 4);
    }

    /** Terms: "of 30 units together" */
    private static void thirtyUnits() {
        String ones = " + 1".repeat(28);
        Due.due("thirty", Due.stored("step 1; show s = 1 + 1" + ones + ";").about(8), 30);
        Due.faultAt("step 1; show s = 1 + 1" + ones + " + |1;", 4);
        // ( e ) is a unit, and what stands in it
        Due.due("brackets", Due.stored("step 1; show s = (1)" + ones + ";").about(8), 30);
        Due.faultAt("step 1; show s = (1) + 1" + ones.substring(4) + " + |1;", 4);
        Due.faultAt("step 1; show s = 1 + 1" + ones + " + |(1);", 4);
        Due.faultAt("step 1; show s = 1" + ones + " + (|1);", 4);
        // of all shows together, NAMES too
        String eight = "1 + 2 + 3 + 4 + 5 + 6 + 7 + 8";
        String three = "step 1;" + G + "show p = " + eight + "; show q = " + eight + "; show r = " + eight + "; show s = g";
        Due.due("together", Due.stored(three + " + p + q + r + p + q;").about(8), 30);
        Due.faultAt(three + " + p + q + r + p + q + |g;", 4);
    }

    /** Terms: "of 30 units together" */
    private static void thirtyUnitsTell() {
        RoundRows x = new RoundRows();
        for (int k = 0; k < 4; k++) {
            // a FAULT in the midst of a formula leaves nothing behind for the next one
            Due.due("a fault", storeOf(x, "step 1; show s = 1 + 2 * (3 - " + ";".repeat(k % 2)), -1);
            Due.due("store " + k, storeOf(x, "step 1; archive mean 1 by 1 share 0; show s = " + k + " + 1".repeat(29) + ";"), 0);
            x.read(1, 0, 0, 0, 0);
            Due.due("all thirty", x.show(0, 0, 0), 1000 * (29 + k));
        }
    }

    /** Terms: "N 0 .. 9,999" */
    private static void constants() {
        limits("step 1; show s = ", 0, 9999, ";");
        limits("step 1; show s = 1 + (2 * ", 0, 9999, ");");
    }

    /** Terms: "a NAME in e is one of a MEASURE or SHOW told ahead" */
    private static void namesAhead() {
        Due.stored("step 1;" + G + "show s = g; show t = s + g;");
        Due.faultAt("step 1; show s = |g;" + G, 3);
        Due.faultAt("step 1;" + G + "show s = |t; show t = 1;", 3);
        Due.faultAt("step 1;" + G + "show s = g + |s;", 3);
        // a NAME of the STORE ahead of this one is not told
        RoundRows x = Due.stored("step 1;" + G);
        Due.put(x, "step 1; show s = g;");
        Due.due("of another store", x.store(), -1);
        Due.due("fault", x.fault(0), 3);
        Due.due("place", x.fault(1), 17);
    }

    /** Terms: "a unit stands within 4 others at most ( ( e ) )." */
    private static void withinFour() {
        Due.due("within four", Due.stored("step 1; show s = ((((1))));").about(8), 5);
        Due.faultAt("step 1; show s = (((((|1)))));", 4);
        Due.faultAt("step 1; show s = (((((|(1))))));", 4);
        // units that stand beside others are not within them
        Due.stored("step 1; show s = ((((1)) + ((2)))) * ((3) - (((4)) or 5));");
        Due.faultAt("step 1; show s = (1) + ((2) * (3 - (1 or (4 + (|1)))));", 4);
        Due.stored("step 1; show s = (1) + ((2) * (3 - (1 or (4 + 1))));");
    }

    /** Terms: "A NAME is told but once." */
    private static void nameOnce() {
        Due.faultAt("step 1;" + G + "measure |g amount silence 1;", 3);
        Due.faultAt("step 1;" + G + "show |g = 1;", 3);
        Due.faultAt("step 1; show s = 1; show |s = 2;", 3);
        Due.faultAt("step 1; show s = 1; measure |s gauge silence 1;", 3);
        Due.stored("step 1;" + G + "measure gg gauge silence 1; show ggg = 1; show h = 1;");
        // once in each STORE
        RoundRows x = Due.stored("step 1;" + G);
        Due.put(x, "step 1;" + G);
        Due.due("once more in another store", x.store(), 1);
    }

    /** Terms: "FAULTS, the first by its place" */
    private static void firstFault() {
        Due.faultAt("step |61; ?", 2);
        Due.faultAt("step 1; measure g gauge silence |0; step 1;", 2);
        Due.faultAt("step 1; show s = |t + 10000 + ?;", 3);
        Due.faultAt("step 1; show s = |10000 + t;", 2);
        Due.faultAt("step 1;" + FOUR + "|measure a ?", 4);
    }

    /** Terms: "(a TOKEN's first byte; the end's, the text's length)" */
    private static void placeOfFault() {
        Due.faultAt("step 1;   |gauge", 1);
        Due.faultAt("step    |99;", 2);
        Due.faultAt("|?", 1);
        Due.faultAt("step 1|", 1);
        Due.faultAt("step 1 \n  |", 1);
        Due.faultAt("step 1; show s = 1" + " ".repeat(982) + "|", 1);
        Due.faultAt("step 1; show s = 1" + " ".repeat(981) + "|)", 1);
    }

    /** Terms: "of one place the least" */
    private static void leastFault() {
        String full = "step 1; show s = 1" + " + 1".repeat(29) + " + ";
        String deep = "step 1; show s = (((((";
        for (String ahead : new String[] {full, deep}) {
            Due.faultAt(ahead + "|;", 1);
            Due.faultAt(ahead + "|?", 1);
            Due.faultAt(ahead + "|or", 1);
            Due.faultAt(ahead + "|10000", 2);
            Due.faultAt(ahead + "|t", 3);
            Due.faultAt(ahead + "|9999", 4);
            Due.faultAt(ahead + "|(", 4);
        }
    }

    /** Terms: "1 a TOKEN that is none, or can't stand there (step behind the first line, another line ahead of it)" */
    private static void faultOfTokens() {
        Due.faultAt("step 1; |.", 1);
        Due.faultAt("step 1; |S", 1);
        Due.faultAt("step 1; |\t", 1);
        Due.faultAt("step 1; |;", 1);
        Due.faultAt("step 1; |g", 1);
        Due.faultAt("step 1; |1", 1);
        Due.faultAt("step 1; |silence 1;", 1);
        Due.faultAt("step |-1;", 1);
        Due.faultAt("step 1;" + G + "|step 1;", 1);
        Due.faultAt("step 1; show s = 1; |step 1;", 1);
        Due.faultAt("|" + G + "step 1;", 1);
        Due.faultAt("|show s = 1; step 1;", 1);
    }

    /** Terms: "2 a number that can't be (the second width, most, too)" */
    private static void faultOfNumbers() {
        Due.faultAt("step |0;", 2);
        Due.faultAt("step 1; measure g gauge silence 1 least 6 most |5;", 2);
        Due.stored("step 1; measure g gauge silence 1 least 6 most 6;");
        Due.faultAt("step 1; measure g counter 8 |8 silence 1;", 2);
        Due.stored("step 1; measure g counter 8 9 silence 1;");
        Due.faultAt("step 1; show s = |10000;", 2);
        Due.stored("step 1; show s = 09999;");
    }

    /**
     * Terms: "3 a NAME told already, a forecast told already (at its NAME), a NAME in e or of a forecast that none told ahead has
     * (of a forecast: of a MEASURE)"
     */
    private static void faultOfNames() {
        String behind = " season 2 by 1 1 1 band 1;";
        Due.faultAt("step 1;" + G + "measure |g gauge silence 1;", 3);
        Due.faultAt("step 1;" + G + "forecast g" + behind + "forecast |g" + behind, 3);
        Due.faultAt("step 1;" + G + "show s = |h;", 3);
        Due.faultAt("step 1;" + G + "forecast |h" + behind, 3);
        Due.faultAt("step 1; forecast |g" + behind + G, 3);
        Due.faultAt("step 1;" + G + "show s = g; forecast |s" + behind, 3);
        Due.stored("step 1;" + G + "show s = g; forecast g" + behind);
    }

    /**
     * Terms: "4 one too many (a MEASURE, ARCHIVE, SHOW, at the line's word; a unit too many, or within 5 others, at its first TOKEN)."
     */
    private static void faultOfMany() {
        Due.faultAt("step 1;" + FOUR + "|measure", 4);
        Due.faultAt("step 1;" + FOUR + "|measure a", 4);
        Due.faultAt("step 1;" + "archive mean 1 by 1 share 0;".repeat(4) + "|archive ?", 4);
        Due.faultAt("step 1; show p = 1; show q = 1; show r = 1; show s = 1; |show p", 4);
        Due.faultAt("step 1; show s = 1" + " + 1".repeat(29) + " + |(2);", 4);
        Due.faultAt("step 1; show s = (((((|(2))))));", 4);
    }

    /** Terms: "An empty text has no MEASURES, and step 1." */
    private static void emptyText() {
        RoundRows x = Due.stored("step 9;" + FOUR + "archive mean 1 by 1 share 0; show s = a; forecast a season 2 by 1 1 1 band 1;");
        Due.due("empty", x.store(), 0);
        Due.due("no fault", x.fault(0), 0);
        Due.due("no place", x.fault(1), -1);
        Due.due("step", x.about(0), 1);
        for (int what = 1; what < 12; what++) {
            Due.due("about(" + what + ")", x.about(what), 0);
        }
        Due.due("step is 1", x.read(3, 0, 0, 0, 0), 3);
        // one byte that is a token is not empty
        Due.put(x, ";");
        Due.due("a sign", x.store(), -1);
        Due.put(x, "step 2;");
        Due.due("a line", x.store(), 0);
        Due.due("its step", x.about(0), 2);
    }

    // ---- Promises 1 to 5

    /** Promise 1: "No MEASURES (step 1)." */
    private static void newObject() {
        RoundRows x = new RoundRows();
        Due.due("step", x.about(0), 1);
        for (int what = 1; what < 12; what++) {
            Due.due("about(" + what + ")", x.about(what), 0);
        }
        Due.due("no measure", x.measure(0, 0), -1);
        Due.due("no rate", x.rate(0), U);
        Due.due("no archive", x.archive(0, 0), -1);
        Due.due("step is 1", x.read(3, 0, 0, 0, 0), 3);
    }

    /** Promise 2: "Twenty bytes come behind those on the TAPE, of each number the highest first: how many there are" */
    private static void feedsTwenty() {
        RoundRows x = new RoundRows();
        Due.due("first", x.feed('s' << 24 | 't' << 16 | 'e' << 8 | 'p', ' ' << 24 | '7' << 16 | ';' << 8 | ' ', 0x20202020, 0x0a0a0a0a,
                0x20202020), 20);
        Due.due("second", x.feed('s' << 24 | 'h' << 16 | 'o' << 8 | 'w', ' ' << 24 | 's' << 16 | '=' << 8 | '1', ';' << 24, 0, 0), 40);
        Due.due("cut", x.end(29), 29);
        Due.due("store", x.store(), 0);
        Due.due("step", x.about(0), 7);
        Due.due("show", x.about(3), 1);
        // a number's highest bit is a byte's like any other
        x.feed(-1, 0, 0, 0, 0);
        Due.due("byte 255", x.store(), -1);
        Due.due("is no token", x.fault(1), 0);
        // behind those that end() left
        Due.put(x, "ste");
        Due.due("behind three", x.feed('p' << 24 | ' ' << 16 | '5' << 8 | ';', 0x20202020, 0x20202020, 0x20202020, 0x20202020), 23);
        Due.due("store", x.store(), 0);
        Due.due("step", x.about(0), 5);
    }

    /** Promise 2: "NONE, and nothing comes, if there would be more than 1,000." */
    private static void feedsThousand() {
        RoundRows x = new RoundRows();
        for (int i = 1; i <= 50; i++) {
            Due.due("feed " + i, x.feed(0x20202020, 0x20202020, 0x20202020, 0x20202020, 0x20202020), 20 * i);
        }
        Due.due("1,020", x.feed(-1, -1, -1, -1, -1), -1);
        Due.due("nothing came", x.about(11), 1000);
        x.end(981);
        Due.due("1,001", x.feed(-1, -1, -1, -1, -1), -1);
        Due.due("nothing came", x.about(11), 981);
        Due.due("blanks alone", x.store(), 0);
        Due.put(x, " ".repeat(980));
        Due.due("1,000", x.feed(-1, -1, -1, -1, -1), 1000);
        Due.due("it came", x.store(), -1);
        Due.due("it came", x.fault(1), 980);
    }

    /** Promise 3: "NONE, and nothing happens, if it has not so many, or n is below 0." */
    private static void endsWithin() {
        RoundRows x = new RoundRows();
        Due.due("0 of 0", x.end(0), 0);
        Due.due("1 of 0", x.end(1), -1);
        x.feed(0, 0, 0, 0, 0);
        int[][] want = {{21, -1}, {-1, -1}, {2147483647, -1}, {-2147483648, -1}, {1000, -1}, {20, 20}};
        for (int[] w : want) {
            Due.due("end(" + w[0] + ") of 20", x.end(w[0]), w[1]);
            Due.due("bytes", x.about(11), 20);
        }
        Due.due("19", x.end(19), 19);
        Due.due("20 of 19", x.end(20), -1);
        Due.due("0", x.end(0), 0);
        Due.due("bytes", x.about(11), 0);
    }

    /** Promise 3: "The TAPE has its first n bytes alone: n" */
    private static void endCuts() {
        RoundRows x = new RoundRows();
        x.feed('s' << 24 | 't' << 16 | 'e' << 8 | 'p', ' ' << 24 | '1' << 16 | '2' << 8 | ';', 0, 0, 0);
        Due.due("the first 6", x.end(6), 6);
        Due.due("those come behind them", x.feed(';' << 24, 0, 0, 0, 0), 26);
        x.end(7);
        Due.due("store", x.store(), 0);
        Due.due("step", x.about(0), 1);
        // a number and a word are as long as what is left of them
        Due.put(x, "step 61;");
        x.end(6);
        x.store();
        fault(x, "step 6", 1, 6);
        Due.put(x, "step 6;showy");
        x.end(11);
        x.store();
        fault(x, "step 6;show", 1, 11);
    }

    /** Promise 4: "The TAPE (empty then, also at a FAULT) is the STORE" */
    private static void storeTakesTheTape() {
        RoundRows x = new RoundRows();
        Due.put(x, "step 7;");
        Due.due("store", x.store(), 0);
        Due.due("empty", x.about(11), 0);
        Due.put(x, "step");
        Due.due("fault", x.store(), -1);
        Due.due("empty at a fault", x.about(11), 0);
        Due.due("step stays", x.about(0), 7);
        Due.due("nothing of it is left", x.end(1), -1);
        Due.put(x, "step 8;");
        Due.due("it comes from the first byte on", x.store(), 0);
        Due.due("step", x.about(0), 8);
    }

    /** Promise 4: "(all anew, TIME 0, no ACTS are kept; BOXES are empty): how many MEASURES" */
    private static void storeBeginsAnew() {
        String[] texts = {
            "step 2;" + FOUR.replace("silence ", "silence 1") + "archive latest 1 by 9 share 9; archive mean 3 by 9 share 9; show s = a; show t = s + (c * 2);"
                    + "forecast d season 24 by 3 5 7 band 1; forecast b season 2 by 0 0 16 band 2;",
            "step 7; measure c counter 4 8 silence 9 least 1 most 50; measure a amount silence 9 least 2; archive most 2 by 2 share 0;"
                    + "show s = 5; forecast c season 3 by 8 8 8 band 1; forecast a season 3 by 8 8 8 band 1;",
            "", "step 3;" + FOUR.substring(0, FOUR.indexOf("measure c")) + "archive mean 3 by 9 share 9;", "step 1;" + G + "show s = 7 + g;",
            "step 2; archive least 1 by 9 share 0; show s = 1" + " + 1".repeat(29) + ";", "step 2; measure d counter 5 9 silence 3;",
        };
        int[] measures = {4, 2, 0, 2, 1, 0, 1};
        for (String ahead : texts) {
            for (int k = 0; k < texts.length; k++) {
                RoundRows x = new RoundRows();
                for (int twice = 0; twice < 2; twice++) {
                    storeOf(x, ahead);
                    readings(x);
                    x.turn(0, 1, 5);
                    x.image(0);
                    x.image(1);
                    x.undo();
                }
                String of = texts[k] + " behind " + ahead;
                Due.due("measures of " + of, storeOf(x, texts[k]), measures[k]);
                RoundRows fresh = Due.stored(texts[k]);
                anew(of, x, fresh);
                Due.due("box 0 is empty, " + of, x.back(0), -1);
                Due.due("box 1 is empty, " + of, x.back(1), -1);
                readings(x);
                readings(fresh);
                anew("readings, " + of, x, fresh);
            }
        }
    }

    private static void readings(RoundRows x) {
        for (int i = 0; i < 7; i++) {
            x.read(1 + i % 3, 30 + 5 * i, i == 4 ? -1 : 3 * i, 9, i);
        }
    }

    /** Two objects tell the same. */
    private static void anew(String of, RoundRows x, RoundRows fresh) {
        Due.due("all anew: " + of, Due.stateOf(x) == Due.stateOf(fresh), true);
        for (int what = 0; what < 12; what++) {
            Due.due("all anew, about(" + what + "): " + of, x.about(what), fresh.about(what));
        }
        Due.due("all anew, show: " + of, x.show(0, 0, 0), fresh.show(0, 0, 0));
        Due.due("all anew, show: " + of, x.show(1, 1, 0), fresh.show(1, 1, 0));
    }

    private static int storeOf(RoundRows x, String text) {
        Due.put(x, text);
        return x.store();
    }

    /** Promise 4: "NONE, and all stays: a FAULT." */
    private static void storeAtAFault() {
        for (String bad : new String[] {"?", "step 0;", "step 9; measure x gauge silence 5; show x = 1;", "step 9;" + FOUR + FOUR}) {
            RoundRows x = Due.stored("step 2; measure a gauge silence 9; archive latest 1 by 9 share 9; show s = a + 1;");
            x.read(2, 7, 0, 0, 0);
            x.image(1);
            x.read(1, 8, 0, 0, 0);
            x.read(1, 8, 0, 0, 0);
            x.undo();
            Due.due("store of " + bad, storeOf(x, bad), -1);
            int[] about = {2, 1, 1, 1, 0, 3, 1, 2, 2, 2, 1, 0};
            for (int what = 0; what < about.length; what++) {
                Due.due("about(" + what + ") behind " + bad, x.about(what), about[what]);
            }
            Due.due("silence", x.measure(0, 0), 9);
            Due.due("row", x.row(0, 0, 0), 7000);
            Due.due("show", x.show(0, 0, 0), 8000);
            Due.due("redo", x.redo(), true);
            Due.due("box", x.back(1), 2);
        }
    }

    /** Promise 5: "Of the latest store() what 0: its FAULT (0: without; ahead of any, too), 1: its place (NONE)." */
    private static void faultOfTheLatest() {
        RoundRows x = new RoundRows();
        fault(x, "ahead of any", 0, -1);
        storeOf(x, "step 61;");
        fault(x, "a fault", 2, 5);
        Due.put(x, "step 7");
        fault(x, "a tape that is no store yet", 2, 5);
        x.store();
        fault(x, "another fault", 1, 6);
        storeOf(x, "step 1;");
        fault(x, "without", 0, -1);
        storeOf(x, "?");
        fault(x, "at place 0", 1, 0);
        x.store();
        fault(x, "an empty text", 0, -1);
    }

    private static void fault(RoundRows x, String of, int what, int place) {
        Due.due(of + ": fault", x.fault(0), what);
        Due.due(of + ": place", x.fault(1), place);
    }

    /** Promise 5: "NONE for another what." */
    private static void faultOfNoWhat() {
        RoundRows x = new RoundRows();
        storeOf(x, "step 61;");
        Due.due("what 1", x.fault(1), 5);
        for (int what : new int[] {-1, 2, 2147483647, -2147483648}) {
            Due.due("what " + what, x.fault(what), -1);
        }
    }
}
