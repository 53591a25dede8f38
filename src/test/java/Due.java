/** What the tests share: texts are fed to an object, and answers are held against those that are due. */
final class Due {
    private static int wrong = 0;

    private Due() {
    }

    static void due(String call, long got, long want) {
        if (got != want) {
            wrong++;
            System.out.println(call + " answered " + got + ", due is " + want);
        }
    }

    static void due(String call, boolean got, boolean want) {
        due(call, got ? 1 : 0, want ? 1 : 0);
    }

    /** Feeds a text; the tape then has these bytes alone behind those it had. */
    static void put(RoundRows x, String text) {
        int had = x.about(11);
        int[] five = new int[5];
        for (int at = 0; at < text.length(); at += 20) {
            for (int k = 0; k < 5; k++) {
                int four = 0;
                for (int i = at + 4 * k; i < at + 4 * k + 4; i++) {
                    four = four << 8 | (i < text.length() ? text.charAt(i) : ' ');
                }
                five[k] = four;
            }
            x.feed(five[0], five[1], five[2], five[3], five[4]);
        }
        due("end of " + text, x.end(had + text.length()), had + text.length());
    }

    /** A new object with a text that is good. */
    static RoundRows stored(String text) {
        RoundRows x = new RoundRows();
        put(x, text);
        if (x.store() == RoundRows.NONE) {
            wrong++;
            System.out.println("store of " + text + ": fault " + x.fault(0) + " at " + x.fault(1));
        }
        return x;
    }

    /** A fault where the mark | stands (which is taken out), and none is stored. */
    static void faultAt(String text, int what) {
        int at = text.indexOf('|');
        String whole = text.substring(0, at) + text.substring(at + 1);
        RoundRows x = new RoundRows();
        put(x, whole);
        due("store of " + whole, x.store(), RoundRows.NONE);
        due("fault of " + whole, x.fault(0), what);
        due("place of " + whole, x.fault(1), at);
    }

    /** Readings one behind another, each so much later, with a number that is told for each measure. */
    static void reads(RoundRows x, int later, int... numbers) {
        for (int n : numbers) {
            x.read(later, n, n, n, n);
        }
    }

    /** What an object answers of its state, in one number; few calls, since an object is used for 512 at most. */
    static long stateOf(RoundRows x) {
        long state = 17;
        for (int what = 5; what < 12; what++) {
            state = state * 31 + x.about(what);
        }
        for (int m = 0; m < x.about(1); m++) {
            for (int what = 0; what < 6; what++) {
                state = state * 31 + x.measure(m, what);
            }
            state = (state * 31 + x.rate(m)) * 31 + x.value(m);
            for (int what = 0; what < 6; what += what == 2 ? 3 : 1) {
                state = state * 31 + x.forecast(m, what);
            }
            for (int a = 0; a < x.about(2); a++) {
                state = (state * 31 + x.row(a, m, 0)) * 31 + x.row(a, m, 1);
            }
            state = (state * 31 + x.place(m, 0, 0)) * 31 + x.place(m, 1, 1);
            state = (state * 31 + x.told(m, 0, 0)) * 31 + x.told(m, 1, 1);
        }
        return state;
    }

    static void finish() {
        System.out.println(wrong == 0 ? "all answers are as due" : wrong + " answers are not as due");
        if (wrong != 0) {
            System.exit(1);
        }
    }
}
