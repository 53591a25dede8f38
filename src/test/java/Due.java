/** What the tests share: texts are fed to an object, and answers are held against those that are due. */
final class Due {
    private static int wrong = 0;

    private Due() {
    }

    static void due(String call, long got, long want) {
        if (got != want) {
            wrong++;
            System.out.println(call + " answered " + got + ", due is " + want);
        }
    }

    static void due(String call, boolean got, boolean want) {
        due(call, got ? 1 : 0, want ? 1 : 0);
    }

    /** Feeds a text; the tape then has these bytes alone behind those it had. */
    static void put(RoundRows x, String text) {
        int had = x.about(11);
        int[] five = new int[5];
        for (int at = 0; at < text.length(); at += 20) {
            for (int k = 0; k < 5; k++) {
                int four = 0;
                for (int i = at + 4 * k; i < at + 4 * k + 4; i++) {
                    four = four << 8 | (i < text.length() ? text.charAt(i) : ' ');
                }
                five[k] = four;
            }
            x.feed(five[0], five[1], five[2], five[3], five[4]);
        }
        due("end of " + text, x.end(had + text.length()), had + text.length());
    }

    /** A new object with a text that is good. */
    static RoundRows stored(String text) {
        RoundRows x = new RoundRows();
        put(x, text);
        if (x.store() == RoundRows.NONE) {
            wrong++;
            System.out.println("store of " + text + ": fault " + x.fault(0) + " at " + x.fault(1));
        }
        return x;
    }

    static void finish() {
        System.out.println(wrong == 0 ? "all answers are as due" : wrong + " answers are not as due");
        if (wrong != 0) {
            System.exit(1);
        }
    }
}
