import java.util.Random;

/** Random runs of calls (always the same ones) on a RoundRows and on the model: all answers must be like. */
public final class ModelTest {
    private static final int RUNS = 400;
    private static final int CALLS = 440;

    private final Random random;
    private final RoundRows x = new RoundRows();
    private final Model model = new Model();
    private final StringBuilder calls = new StringBuilder();
    private boolean wrong = false;
    /** Whether numbers are mostly small, spans short and texts few. */
    private boolean calm;

    private ModelTest(int seed) {
        random = new Random(seed);
    }

    public static void main(String[] args) {
        int runs = args.length > 0 ? Integer.parseInt(args[0]) : RUNS;
        int first = args.length > 1 ? Integer.parseInt(args[1]) : 0;
        int bad = 0;
        for (int run = first; run < first + runs && bad < 3; run++) {
            ModelTest test = new ModelTest(run);
            test.run();
            if (test.wrong) {
                bad++;
                System.out.println("run " + run + ":\n" + test.calls);
            }
        }
        System.out.println(bad == 0 ? "all answers are as due" : bad + " runs are not as due");
        if (bad > 0) {
            System.exit(1);
        }
    }

    private int below(int n) {
        return random.nextInt(n);
    }

    private boolean one(int of) {
        return random.nextInt(of) == 0;
    }

    private void same(String call, long got, long want) {
        calls.append(call).append(" -> ").append(got).append('\n');
        if (got != want && !wrong) {
            wrong = true;
            calls.append("   DUE IS ").append(want).append('\n');
        }
    }

    private void run() {
        int made = 0;
        calm = !one(3);
        while (made < CALLS && !wrong) {
            if (made == 0 || one(calm ? 250 : 60)) {
                made += text(made > 0 && one(2));
            } else if (one(3)) {
                made++;
                act();
            } else {
                made++;
                ask(below(30));
            }
        }
    }

    // ---- texts

    private int text(boolean spoilt) {
        String text = goodText();
        if (spoilt) {
            for (int k = 1 + below(2); k > 0; k--) {
                text = spoil(text);
            }
        }
        int at = 0;
        int made = 4;
        for (; at < text.length() && model.about(11) + 20 <= 1000; at += 20) {
            int[] five = new int[5];
            for (int k = 0; k < 20; k++) {
                five[k / 4] = five[k / 4] << 8 | (at + k < text.length() ? text.charAt(at + k) & 255 : 32);
            }
            same("feed", x.feed(five[0], five[1], five[2], five[3], five[4]), model.feed(five));
            made++;
        }
        int n = Math.min(text.length(), 1000);
        if (one(20)) {
            n -= below(9);
        }
        same("end(" + n + ") " + text, x.end(n), model.end(n));
        same("store", x.store(), model.store());
        same("fault(0)", x.fault(0), model.fault(0));
        same("fault(1)", x.fault(1), model.fault(1));
        return made;
    }

    private String word(String... words) {
        return words[below(words.length)];
    }

    private String goodText() {
        StringBuilder text = new StringBuilder("step ").append(one(2) ? 1 + below(6) : 1 + below(60)).append(';');
        int measures = one(10) ? 0 : 1 + below(4);
        for (int m = 0; m < measures; m++) {
            text.append(word(" ", "\n", "")).append("measure ").append((char) ('a' + m)).append(word("", "x")).append(' ');
            int sort = below(3);
            int width = 4 + below(12);
            text.append(sort == 0 ? "gauge" : sort == 1 ? "amount" : "counter " + width + " " + (width + 1 + below(20 - width)));
            text.append(" silence ").append(one(3) ? 1 + below(30) : 1 + below(1000));
            int least = below(one(2) ? 20 : 1000);
            if (one(6)) {
                text.append(" least ").append(least);
            } else {
                least = 0;
            }
            if (one(6)) {
                text.append(" most ").append(Math.min(999_999, least + below(one(2) ? 300 : 999_999)));
            }
            text.append(';');
        }
        for (int a = one(10) ? 0 : 1 + below(4); a > 0; a--) {
            text.append("archive ").append(word("mean", "most", "least", "latest", "mean")).append(' ').append(1 + below(one(2) ? 3 : 12));
            text.append(" by ").append(one(2) ? 1 + below(5) : 1 + below(30)).append(" share ").append(below(10)).append(';');
        }
        String names = text.toString();
        for (int m = 0; m < measures; m++) {
            if (!one(3)) {
                text.append("forecast ").append(names.contains("measure " + (char) ('a' + m) + "x") ? (char) ('a' + m) + "x" : (char) ('a' + m) + "");
                text.append(" season ").append(one(2) ? 2 + below(3) : 2 + below(23)).append(" by ");
                text.append(below(17)).append(' ').append(below(17)).append(' ').append(below(17));
                text.append(" band ").append(one(2) ? 1 : 1 + below(9)).append(';');
            }
        }
        int shows = below(5);
        for (int s = 0; s < shows; s++) {
            StringBuilder before = new StringBuilder();
            text.append("show s").append((char) ('a' + s)).append(" =");
            formula(text, measures, s, names, 0, before);
            text.append(';');
        }
        return text.toString();
    }

    private void formula(StringBuilder text, int measures, int shows, String names, int within, StringBuilder none) {
        int units = 1 + below(within == 0 ? 4 : 2);
        for (int u = 0; u < units; u++) {
            if (u > 0) {
                text.append(word(" + ", "-", "*", " / ", " or ", " or "));
            }
            int sort = below(6);
            if (sort == 0 && within < 4) {
                text.append('(');
                formula(text, measures, shows, names, within + 1, none);
                text.append(')');
            } else if (sort == 1 && shows > 0) {
                text.append(" s").append((char) ('a' + below(shows))).append(' ');
            } else if (sort < 5 && measures > 0) {
                char m = (char) ('a' + below(measures));
                text.append(' ').append(m).append(names.contains("measure " + m + "x") ? "x" : "").append(' ');
            } else {
                text.append(one(3) ? below(10000) : below(4));
            }
        }
    }

    private String spoil(String text) {
        int at = below(text.length() + 1);
        int stop = Math.min(text.length(), at + 1 + below(3));
        String[] more = {";", "=", "(", ")", "((((((", "+", "-", "*", "/", ".", "#", " 0 ", " 7 ", "10000", "1000000", "99999999999",
            " step ", " measure ", " most ", " least ", " a ", " b ", " sa ", " or ", " by ", "q", " ", "\t", "" + (char) 200};
        switch (below(4)) {
            case 0:
                return text.substring(0, at) + text.substring(stop);
            case 1:
                return text.substring(0, at) + word(more) + text.substring(at);
            case 2:
                return text.substring(0, at) + word(more) + text.substring(stop);
            default:
                // a line once more
                int from = Math.max(0, text.lastIndexOf(';', Math.max(0, at - 1)) + 1);
                int to = text.indexOf(';', from) + 1;
                return to <= from ? text : text.substring(0, to) + text.substring(from, to).repeat(1 + below(4)) + text.substring(to);
        }
    }

    // ---- acts

    private int later() {
        switch (below(calm ? 60 : 12)) {
            case 0:
                return below(1003) - 1;
            case 1:
                return 1 + below(200);
            case 2:
                return 60 * (1 + below(3));
            default:
                return 1 + below(12);
        }
    }

    private int number(int m) {
        switch (calm ? 5 + below(60) : below(14)) {
            case 0:
                return below(1_000_003) - 1;
            case 1:
                return -1 - below(3);
            case 2:
                return 999_998 + below(4);
            case 3:
                int width = 1 << 4 + below(17);
                return width - 2 + below(4);
            case 4:
            case 5:
                return below(2000);
            case 6:
                int last = model.measure(m, 5);
                return last + below(50) - 10;
            default:
                return below(40);
        }
    }

    private void act() {
        int k = below(20);
        if (k < 14) {
            int later = later();
            int a = number(0);
            int b = number(1);
            int c = number(2);
            int d = number(3);
            same("read(" + later + "," + a + "," + b + "," + c + "," + d + ")", x.read(later, a, b, c, d), model.read(later, a, b, c, d));
        } else if (k == 14) {
            int m = below(6) - 1;
            int what = below(5) - 1;
            int v = one(3) ? below(1_000_010) - 5 : below(1010) - 5;
            same("turn(" + m + "," + what + "," + v + ")", x.turn(m, what, v), model.turn(m, what, v));
        } else if (k < 17) {
            same("undo()", x.undo() ? 1 : 0, model.undo() ? 1 : 0);
        } else if (k == 17) {
            same("redo()", x.redo() ? 1 : 0, model.redo() ? 1 : 0);
        } else {
            int box = one(8) ? below(5) - 1 : below(2);
            if (k == 18) {
                same("image(" + box + ")", x.image(box), model.image(box));
            } else if (one(3)) {
                same("back(" + box + ")", x.back(box), model.back(box));
            }
        }
    }

    // ---- questions

    /** Mostly one of so many that there are. */
    private int index(int what) {
        return one(15) ? below(7) - 1 : below(Math.max(1, model.about(what)));
    }

    private int time() {
        return one(10) ? below(40) - 20 : below(model.about(5) + 30) - 5;
    }

    private void ask(int k) {
        int a = index(2);
        int m = index(1);
        int o = k == 13 ? below(5) - below(2) : index(1);
        int i = one(4) ? below(34) - 2 : below(5);
        int n = one(8) ? below(60) - 5 : 1 + below(8);
        int t = one(4) ? 0 : time();
        int u = one(4) ? time() : t + below(2000);
        int w = what(k);
        int l = later();
        int v = number(m);
        String all = " a=" + a + " m=" + m + " o=" + o + " i=" + i + " n=" + n + " t=" + t + " u=" + u + " w=" + w + " l=" + l + " v=" + v;
        if (k < 15) {
            askRows(k, all, a, m, o, i, n, t, u, w);
        } else {
            askOthers(k, all, a, m, i, n, w, l, v);
        }
    }

    private int what(int k) {
        if (one(12)) {
            return below(9) - 2;
        }
        switch (k) {
            case 19:
            case 20:
                return below(2);
            case 22:
                return below(4);
            case 24:
            case 25:
            case 26:
                return index(3);
            case 27:
                return below(3);
            default:
                return below(7);
        }
    }

    private void askRows(int k, String all, int a, int m, int o, int i, int n, int t, int u, int w) {
        switch (k) {
            case 0:
            case 1:
                same("row" + all, x.row(a, m, i), model.row(a, m, i));
                break;
            case 2:
                same("archive" + all, x.archive(a, w), model.archive(a, w));
                break;
            case 3:
                same("rowAt" + all, x.rowAt(a, t), model.rowAt(a, t));
                break;
            case 4:
            case 5:
                same("over" + all, x.over(a, m, t, u, w), model.over(a, m, t, u, w));
                break;
            case 6:
                int share = below(105) - 2;
                same("share " + share + all, x.share(a, m, share), model.share(a, m, share));
                break;
            case 7:
                same("smooth" + all, x.smooth(a, m, n, i), model.smooth(a, m, n, i));
                break;
            case 8:
                same("alike" + all, x.alike(a, m, o), model.alike(a, m, o));
                break;
            case 9:
                same("left" + all, x.left(a), model.left(a));
                break;
            case 10:
                int gap = one(8) ? below(4) - 1 : below(2);
                same("gap " + gap + all, x.gap(a, m, gap), model.gap(a, m, gap));
                break;
            case 11:
                same("total" + all, x.total(a, m, t, u), model.total(a, m, t, u));
                break;
            case 12:
                same("rise" + all, x.rise(a, m), model.rise(a, m));
                break;
            case 13:
                same("best" + all, x.best(o, t), model.best(o, t));
                break;
            default:
                same("law" + all, x.law(), model.law());
                break;
        }
    }

    private void askOthers(int k, String all, int a, int m, int i, int n, int w, int l, int v) {
        switch (k) {
            case 15:
                same("measure" + all, x.measure(m, w), model.measure(m, w));
                break;
            case 16:
                same("rate" + all, x.rate(m), model.rate(m));
                break;
            case 17:
                same("value" + all, x.value(m), model.value(m));
                break;
            case 18:
                same("forecast" + all, x.forecast(m, w), model.forecast(m, w));
                break;
            case 19:
                same("place" + all, x.place(m, i, w), model.place(m, i, w));
                break;
            case 20:
                same("told" + all, x.told(m, i, w), model.told(m, i, w));
                break;
            case 21:
                same("odd" + all, x.odd(m, n), model.odd(m, n));
                break;
            case 22:
                same("alarms" + all, x.alarms(m, n, w), model.alarms(m, n, w));
                break;
            case 23:
                same("ahead" + all, x.ahead(m, n), model.ahead(m, n));
                break;
            case 24:
            case 25:
                same("show" + all, x.show(w, a, i), model.show(w, a, i));
                break;
            case 26:
                same("shows" + all, x.shows(w, a, n % 6 - 1), model.shows(w, a, n % 6 - 1));
                break;
            case 27:
                same("would" + all, x.would(l, v, m, w), model.would(l, v, m, w));
                break;
            case 28:
                if (one(3)) {
                    same("fits" + all, x.fits(l, m), model.fits(l, m));
                }
                break;
            default:
                int what = below(14) - 1;
                same("about " + what, x.about(what), model.about(what));
                break;
        }
    }
}
