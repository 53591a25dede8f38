import java.math.BigInteger;
import java.util.ArrayList;
import java.util.HashMap;
import java.util.List;
import java.util.Map;

/**
 * The document once more, in another way: the acts are kept as a list, and whenever one is asked for anything, all
 * units of TIME are gone through from the first act on. Slow; made to be held against RoundRows.
 */
final class Model {
    static final int NONE = -1;
    static final int UNKNOWN = Integer.MIN_VALUE;
    private static final String KEYWORDS = " step measure gauge amount counter silence least most archive mean latest by share"
            + " forecast season band show or ";

    // ---- what a text tells

    private static final class Fault extends RuntimeException {
        private static final long serialVersionUID = 1;
        final int what;
        final int place;

        Fault(int what, int place) {
            super(null, null, false, false);
            this.what = what;
            this.place = place;
        }
    }

    private static final class Token {
        final String text;
        final int place;

        Token(String text, int place) {
            this.text = text;
            this.place = place;
        }
    }

    private static final class Measured {
        String sort;
        int one;
        int two;
        int silence;
        int least = 0;
        int most = 999_999;
        Forecast forecast;
    }

    private static final class Forecast {
        int season;
        int a;
        int b;
        int c;
        int band;
    }

    private static final class Archived {
        String how;
        int per;
        int rows;
        int share;
    }

    private abstract static class Node {
        /** What it is of a row, whose values of measures and shows are given; null: unknown. */
        abstract Long of(Long[] measures, Long[] shows);
    }

    private static final class Leaf extends Node {
        final char sort;
        final int which;

        Leaf(char sort, int which) {
            this.sort = sort;
            this.which = which;
        }

        @Override
        Long of(Long[] measures, Long[] shows) {
            return sort == 'n' ? Long.valueOf(1000L * which) : sort == 'm' ? measures[which] : shows[which];
        }
    }

    private static final class Pair extends Node {
        final String sign;
        final Node left;
        final Node right;

        Pair(String sign, Node left, Node right) {
            this.sign = sign;
            this.left = left;
            this.right = right;
        }

        @Override
        Long of(Long[] measures, Long[] shows) {
            Long a = left.of(measures, shows);
            Long b = right.of(measures, shows);
            if (sign.equals("or")) {
                return a != null ? a : b;
            }
            if (a == null || b == null || sign.equals("/") && b == 0) {
                return null;
            }
            BigInteger x = BigInteger.valueOf(a);
            BigInteger y = BigInteger.valueOf(b);
            BigInteger thousand = BigInteger.valueOf(1000);
            switch (sign) {
                case "+":
                    return hold(x.add(y));
                case "-":
                    return hold(x.subtract(y));
                case "*":
                    return hold(x.multiply(y).divide(thousand));
                default:
                    return hold(x.multiply(thousand).divide(y));
            }
        }
    }

    private static long hold(BigInteger v) {
        BigInteger bound = BigInteger.valueOf(2_000_000_000);
        return v.min(bound).max(bound.negate()).longValue();
    }

    private static final class Text {
        final List<Token> tokens = new ArrayList<>();
        final Map<String, Leaf> names = new HashMap<>();
        int at;
        int step = 1;
        final List<Measured> measures = new ArrayList<>();
        final List<Archived> archives = new ArrayList<>();
        final List<Node> shows = new ArrayList<>();
        int units;

        Text(String text) {
            int i = 0;
            while (i < text.length()) {
                int j = i;
                while (j < text.length() && Character.toString(text.charAt(j)).matches("[a-z]")) {
                    j++;
                }
                if (j == i) {
                    while (j < text.length() && Character.toString(text.charAt(j)).matches("[0-9]")) {
                        j++;
                    }
                }
                j = Math.max(j, i + 1);
                if (text.charAt(i) != ' ' && text.charAt(i) != '\n') {
                    tokens.add(new Token(text.substring(i, j), i));
                }
                i = j;
            }
            tokens.add(new Token("", text.length()));
        }

        Token here() {
            return tokens.get(at);
        }

        boolean is(String text) {
            return here().text.equals(text);
        }

        Fault fault(int what) {
            return new Fault(what, here().place);
        }

        void must(String text) {
            if (!is(text)) {
                throw fault(1);
            }
            at++;
        }

        int number(int least, int most) {
            if (!here().text.matches("[0-9]+")) {
                throw fault(1);
            }
            BigInteger n = new BigInteger(here().text);
            if (n.compareTo(BigInteger.valueOf(least)) < 0 || n.compareTo(BigInteger.valueOf(most)) > 0) {
                throw fault(2);
            }
            at++;
            return n.intValue();
        }

        boolean isName() {
            return here().text.matches("[a-z]+") && !KEYWORDS.contains(" " + here().text + " ");
        }

        String freshName() {
            if (!isName()) {
                throw fault(1);
            }
            if (names.containsKey(here().text)) {
                throw fault(3);
            }
            return tokens.get(at++).text;
        }

        void all() {
            if (tokens.size() == 1) {
                return;
            }
            must("step");
            step = number(1, 60);
            must(";");
            while (at < tokens.size() - 1) {
                switch (here().text) {
                    case "measure":
                        measure();
                        break;
                    case "archive":
                        archive();
                        break;
                    case "forecast":
                        forecast();
                        break;
                    case "show":
                        show();
                        break;
                    default:
                        throw fault(1);
                }
            }
        }

        void measure() {
            if (measures.size() == 4) {
                throw fault(4);
            }
            at++;
            String name = freshName();
            Measured m = new Measured();
            m.sort = here().text;
            if (!m.sort.matches("gauge|amount|counter")) {
                throw fault(1);
            }
            at++;
            if (m.sort.equals("counter")) {
                m.one = number(4, 20);
                m.two = number(m.one + 1, 20);
            }
            must("silence");
            m.silence = number(1, 1000);
            if (is("least")) {
                at++;
                m.least = number(0, 999_999);
            }
            if (is("most")) {
                at++;
                m.most = number(m.least, 999_999);
            }
            must(";");
            names.put(name, new Leaf('m', measures.size()));
            measures.add(m);
        }

        void archive() {
            if (archives.size() == 4) {
                throw fault(4);
            }
            at++;
            Archived a = new Archived();
            a.how = here().text;
            if (!a.how.matches("mean|most|least|latest")) {
                throw fault(1);
            }
            at++;
            a.per = number(1, 12);
            must("by");
            a.rows = number(1, 30);
            must("share");
            a.share = number(0, 9);
            must(";");
            archives.add(a);
        }

        void forecast() {
            at++;
            if (!isName()) {
                throw fault(1);
            }
            Leaf leaf = names.get(here().text);
            if (leaf == null || leaf.sort != 'm' || measures.get(leaf.which).forecast != null) {
                throw fault(3);
            }
            at++;
            Forecast f = new Forecast();
            must("season");
            f.season = number(2, 24);
            must("by");
            f.a = number(0, 16);
            f.b = number(0, 16);
            f.c = number(0, 16);
            must("band");
            f.band = number(1, 9);
            must(";");
            measures.get(leaf.which).forecast = f;
        }

        void show() {
            if (shows.size() == 4) {
                throw fault(4);
            }
            at++;
            String name = freshName();
            must("=");
            Node node = either(0);
            must(";");
            names.put(name, new Leaf('s', shows.size()));
            shows.add(node);
        }

        Node either(int within) {
            Node left = sum(within);
            while (is("or")) {
                at++;
                left = new Pair("or", left, sum(within));
            }
            return left;
        }

        Node sum(int within) {
            Node left = term(within);
            while (is("+") || is("-")) {
                String sign = tokens.get(at++).text;
                left = new Pair(sign, left, term(within));
            }
            return left;
        }

        Node term(int within) {
            Node left = unit(within);
            while (is("*") || is("/")) {
                String sign = tokens.get(at++).text;
                left = new Pair(sign, left, unit(within));
            }
            return left;
        }

        Node unit(int within) {
            boolean isNumber = here().text.matches("[0-9]+");
            if (!isNumber && !isName() && !is("(")) {
                throw fault(1);
            }
            if (isNumber && new BigInteger(here().text).compareTo(BigInteger.valueOf(9999)) > 0) {
                throw fault(2);
            }
            if (isName() && !names.containsKey(here().text)) {
                throw fault(3);
            }
            if (units == 30 || within > 4) {
                throw fault(4);
            }
            units++;
            String text = tokens.get(at++).text;
            if (text.equals("(")) {
                Node inside = either(within + 1);
                must(")");
                return inside;
            }
            return isNumber ? new Leaf('n', Integer.parseInt(text)) : names.get(text);
        }
    }

    // ---- what is kept

    private StringBuilder tape = new StringBuilder();
    private Text text = new Text("");
    private int fault = 0;
    private int faultPlace = NONE;
    /** Acts: {0, later, a, b, c, d} or {1, measure, what, v}. */
    private List<int[]> acts = new ArrayList<>();
    /** How many of the acts count now, and how many of these can't be taken back. */
    private int applied = 0;
    private int fixed = 0;
    private final List<List<int[]>> boxes = new ArrayList<>(List.of(List.of(), List.of()));
    private final boolean[] full = new boolean[2];
    private Past past = null;

    int feed(int... five) {
        if (tape.length() > 980) {
            return NONE;
        }
        for (int n : five) {
            tape.append((char) (n >> 24 & 255)).append((char) (n >> 16 & 255)).append((char) (n >> 8 & 255)).append((char) (n & 255));
        }
        return tape.length();
    }

    int end(int n) {
        if (n < 0 || n > tape.length()) {
            return NONE;
        }
        tape.setLength(n);
        return n;
    }

    int store() {
        Text fresh = new Text(tape.toString());
        tape = new StringBuilder();
        try {
            fresh.all();
        } catch (Fault found) {
            fault = found.what;
            faultPlace = found.place;
            return NONE;
        }
        fault = 0;
        faultPlace = NONE;
        text = fresh;
        acts = new ArrayList<>();
        applied = 0;
        fixed = 0;
        full[0] = false;
        full[1] = false;
        past = null;
        return text.measures.size();
    }

    int fault(int what) {
        return what == 0 ? fault : what == 1 ? faultPlace : NONE;
    }

    private void act(int... one) {
        while (acts.size() > applied) {
            acts.remove(acts.size() - 1);
        }
        acts.add(one);
        applied++;
        fixed = Math.max(fixed, applied - 12);
        past = null;
    }

    int read(int later, int a, int b, int c, int d) {
        int before = past().stepsOver();
        if (!canRead(later)) {
            return NONE;
        }
        act(0, later, a, b, c, d);
        return past().stepsOver() - before;
    }

    private boolean canRead(int later) {
        return later >= 1 && later <= 1000 && past().time + later <= 100_000;
    }

    int turn(int measure, int what, int v) {
        if (!isMeasure(measure) || what < 0 || what > 2) {
            return NONE;
        }
        int[] bounds = past().bounds[measure];
        boolean can = what == 0 ? v >= 1 && v <= 1000
                : what == 1 ? v >= 0 && v <= 999_999 && v <= bounds[2]
                : v >= 0 && v <= 999_999 && v >= bounds[1];
        if (!can) {
            return NONE;
        }
        int old = bounds[what];
        act(1, measure, what, v);
        return old;
    }

    boolean undo() {
        if (applied == fixed) {
            return false;
        }
        applied--;
        past = null;
        return true;
    }

    boolean redo() {
        if (applied == acts.size()) {
            return false;
        }
        applied++;
        past = null;
        return true;
    }

    int image(int box) {
        if (box != 0 && box != 1) {
            return NONE;
        }
        boxes.set(box, new ArrayList<>(acts.subList(0, applied)));
        full[box] = true;
        return past().time;
    }

    int back(int box) {
        if (box != 0 && box != 1 || !full[box]) {
            return NONE;
        }
        acts = new ArrayList<>(boxes.get(box));
        applied = acts.size();
        fixed = applied;
        past = null;
        return past().time;
    }

    private Past past() {
        if (past == null) {
            past = new Past(text, acts.subList(0, applied));
        }
        return past;
    }

    // ---- all that was

    private static final class Forecasting {
        boolean began;
        long level;
        long trend;
        final long[] swing = new long[24];
        final long[] spread = new long[24];
        final List<Long> told = new ArrayList<>();
        final List<Boolean> odd = new ArrayList<>();
    }

    private static final class Past {
        final Text text;
        int time;
        int readings;
        final int[][] bounds;
        final int[] last;
        final Long[] rate;
        /** Of each measure, of each unit of TIME, its rate. */
        final List<List<Long>> rates = new ArrayList<>();
        /** Of each measure, of each step: its value, and the units by which it was reckoned. */
        final List<List<Long>> values = new ArrayList<>();
        final List<List<Integer>> weights = new ArrayList<>();
        final List<Forecasting> forecasts = new ArrayList<>();

        Past(Text text, List<int[]> acts) {
            this.text = text;
            int n = text.measures.size();
            bounds = new int[n][];
            last = new int[n];
            rate = new Long[n];
            for (int m = 0; m < n; m++) {
                Measured its = text.measures.get(m);
                bounds[m] = new int[] {its.silence, its.least, its.most};
                last[m] = NONE;
                rates.add(new ArrayList<>());
                values.add(new ArrayList<>());
                weights.add(new ArrayList<>());
            }
            for (int[] act : acts) {
                if (act[0] == 1) {
                    bounds[act[1]][act[2]] = act[3];
                } else {
                    read(act);
                }
            }
            cut();
        }

        private void read(int[] act) {
            readings++;
            time += act[1];
            for (int m = 0; m < bounds.length; m++) {
                rate[m] = rateOf(m, act[1], act[2 + m]);
                if (text.measures.get(m).sort.equals("counter")) {
                    last[m] = canBe(m, act[2 + m]) ? act[2 + m] : NONE;
                }
                for (int u = 0; u < act[1]; u++) {
                    rates.get(m).add(rate[m]);
                }
            }
        }

        boolean canBe(int m, int number) {
            Measured its = text.measures.get(m);
            return number >= 0 && number <= 999_999 && (!its.sort.equals("counter") || number < Math.pow(2, its.two));
        }

        Long rateOf(int m, int span, int number) {
            Measured its = text.measures.get(m);
            if (span > bounds[m][0] || !canBe(m, number)) {
                return null;
            }
            long r;
            if (its.sort.equals("gauge")) {
                r = 1000L * number;
            } else if (its.sort.equals("amount")) {
                r = 1000L * number / span;
            } else {
                if (last[m] == NONE) {
                    return null;
                }
                long more = number - last[m];
                if (more < 0) {
                    more += Math.round(Math.pow(2, its.one));
                }
                if (more < 0) {
                    more = number - last[m] + Math.round(Math.pow(2, its.two));
                }
                r = 1000 * more / span;
            }
            return r < 1000L * bounds[m][1] || r > 1000L * bounds[m][2] ? null : Long.valueOf(r);
        }

        int stepsOver() {
            return time / text.step;
        }

        private void cut() {
            for (int m = 0; m < bounds.length; m++) {
                for (int s = 0; s < stepsOver(); s++) {
                    value(m, rates.get(m).subList(s * text.step, (s + 1) * text.step));
                }
                forecasts.add(text.measures.get(m).forecast == null ? null : follow(text.measures.get(m).forecast, values.get(m)));
            }
        }

        private void value(int m, List<Long> units) {
            int known = 0;
            long sum = 0;
            for (Long r : units) {
                if (r != null) {
                    known++;
                    sum += r;
                }
            }
            weights.get(m).add(known);
            values.get(m).add((units.size() - known) * 2 >= units.size() ? null : Long.valueOf(sum / known));
        }

        private static Forecasting follow(Forecast plan, List<Long> values) {
            Forecasting f = new Forecasting();
            for (int s = 0; s < values.size(); s++) {
                Long v = values.get(s);
                int p = s % plan.season;
                if (!f.began) {
                    if (v != null) {
                        f.began = true;
                        f.level = v;
                    }
                    continue;
                }
                long told = bounded(f.level + f.trend + f.swing[p]);
                f.told.add(told);
                f.odd.add(v != null && f.spread[p] > 0 && Math.abs(v - told) > plan.band * f.spread[p]);
                if (v == null) {
                    f.level = bounded(f.level + f.trend);
                    continue;
                }
                long level = bounded((plan.a * (v - f.swing[p]) + (16 - plan.a) * (f.level + f.trend)) / 16);
                f.trend = bounded((plan.b * (level - f.level) + (16 - plan.b) * f.trend) / 16);
                f.swing[p] = bounded((plan.c * (v - level) + (16 - plan.c) * f.swing[p]) / 16);
                f.spread[p] = bounded((plan.c * Math.abs(v - told) + (16 - plan.c) * f.spread[p]) / 16);
                f.level = level;
            }
            return f;
        }

        static long bounded(long v) {
            return Math.max(-2_000_000_000L, Math.min(2_000_000_000L, v));
        }

        /** The rows ever over, the eldest first, each told of a measure. */
        Long rowOf(int archive, int measure, int number) {
            Archived its = text.archives.get(archive);
            List<Long> known = new ArrayList<>();
            long sum = 0;
            long weight = 0;
            for (int s = number * its.per; s < (number + 1) * its.per; s++) {
                Long v = values.get(measure).get(s);
                if (v != null) {
                    known.add(v);
                    sum += v * weights.get(measure).get(s);
                    weight += weights.get(measure).get(s);
                }
            }
            if (known.isEmpty() || 10 * (its.per - known.size()) > its.share * its.per) {
                return null;
            }
            switch (its.how) {
                case "mean":
                    return sum / weight;
                case "most":
                    return known.stream().max(Long::compare).get();
                case "least":
                    return known.stream().min(Long::compare).get();
                default:
                    return known.get(known.size() - 1);
            }
        }
    }

    // ---- what is asked

    private boolean isMeasure(int m) {
        return m >= 0 && m < text.measures.size();
    }

    private boolean isArchive(int a) {
        return a >= 0 && a < text.archives.size();
    }

    private static int told(Long v) {
        return v == null ? UNKNOWN : Math.toIntExact(v);
    }

    private int done(int archive) {
        return past().stepsOver() / text.archives.get(archive).per;
    }

    private int units(int archive) {
        return text.archives.get(archive).per * text.step;
    }

    /** The rows that are kept, the latest first: {begin, end, told or null}. */
    private List<Long[]> rows(int archive, int measure) {
        List<Long[]> rows = new ArrayList<>();
        for (int r = done(archive) - 1; r >= 0 && rows.size() < text.archives.get(archive).rows; r--) {
            rows.add(new Long[] {(long) r * units(archive), (long) (r + 1) * units(archive),
                measure < 0 ? null : past().rowOf(archive, measure, r)});
        }
        return rows;
    }

    int measure(int m, int what) {
        if (!isMeasure(m) || what < 0 || what > 5) {
            return NONE;
        }
        if (what < 3) {
            return past().bounds[m][what];
        }
        if (what == 3) {
            return List.of("gauge", "amount", "counter").indexOf(text.measures.get(m).sort);
        }
        if (what == 5) {
            return past().last[m];
        }
        List<Long> all = past().rates.get(m);
        int known = 0;
        for (int u = past().stepsOver() * text.step; u < all.size(); u++) {
            known += all.get(u) == null ? 0 : 1;
        }
        return known;
    }

    int rate(int m) {
        return isMeasure(m) ? told(past().rate[m]) : UNKNOWN;
    }

    int value(int m) {
        if (!isMeasure(m) || past().stepsOver() == 0) {
            return UNKNOWN;
        }
        return told(past().values.get(m).get(past().stepsOver() - 1));
    }

    int archive(int a, int what) {
        if (!isArchive(a)) {
            return NONE;
        }
        Archived its = text.archives.get(a);
        List<Long[]> rows = rows(a, -1);
        switch (what) {
            case 0:
                return List.of("mean", "most", "least", "latest").indexOf(its.how);
            case 1:
                return its.per;
            case 2:
                return its.rows;
            case 3:
                return its.share;
            case 4:
                return rows.size();
            case 5:
                return rows.isEmpty() ? NONE : told(rows.get(0)[1]);
            case 6:
                return past().stepsOver() - done(a) * its.per;
            default:
                return NONE;
        }
    }

    int row(int a, int m, int i) {
        if (!isArchive(a) || !isMeasure(m)) {
            return UNKNOWN;
        }
        List<Long[]> rows = rows(a, m);
        return i >= 0 && i < rows.size() ? told(rows.get(i)[2]) : UNKNOWN;
    }

    int rowAt(int a, int time) {
        if (!isArchive(a)) {
            return NONE;
        }
        List<Long[]> rows = rows(a, -1);
        for (int i = 0; i < rows.size(); i++) {
            for (long t = rows.get(i)[0] + 1; t <= rows.get(i)[1]; t++) {
                if (t == time) {
                    return i;
                }
            }
        }
        return NONE;
    }

    int over(int a, int m, int from, int to, int what) {
        if (!isArchive(a) || !isMeasure(m) || what < 0 || what > 5) {
            return UNKNOWN;
        }
        List<Long> all = new ArrayList<>();
        for (Long[] row : rows(a, m)) {
            if (row[0] >= from && row[1] <= to) {
                all.add(row[2]);
            }
        }
        List<Long> known = new ArrayList<>(all);
        known.removeIf(v -> v == null);
        if (what == 0) {
            return all.size();
        }
        if (what == 1) {
            return known.size();
        }
        if (what == 5) {
            return (all.size() - known.size()) * units(a);
        }
        if (known.isEmpty()) {
            return UNKNOWN;
        }
        long sum = known.stream().mapToLong(v -> v).sum();
        return told(what == 2 ? sum / known.size() : what == 3 ? known.stream().max(Long::compare).get() : known.stream().min(Long::compare).get());
    }

    int share(int a, int m, int hundredths) {
        if (!isArchive(a) || !isMeasure(m) || hundredths < 0 || hundredths > 100) {
            return UNKNOWN;
        }
        List<Long> known = new ArrayList<>();
        for (Long[] row : rows(a, m)) {
            if (row[2] != null) {
                known.add(row[2]);
            }
        }
        known.sort(Long::compare);
        for (int k = 0; k < known.size(); k++) {
            if ((k + 1) * 100 >= hundredths * known.size()) {
                return told(known.get(k));
            }
        }
        return UNKNOWN;
    }

    int smooth(int a, int m, int n, int i) {
        if (!isArchive(a) || !isMeasure(m) || n < 1 || n > 30 || i < 0) {
            return UNKNOWN;
        }
        List<Long[]> rows = rows(a, m);
        long sum = 0;
        int known = 0;
        for (int k = i; k < rows.size() && k < (long) i + n; k++) {
            if (rows.get(k)[2] != null) {
                sum += rows.get(k)[2];
                known++;
            }
        }
        return known == 0 ? UNKNOWN : told(sum / known);
    }

    int alike(int a, int one, int other) {
        if (!isArchive(a) || !isMeasure(one) || !isMeasure(other)) {
            return NONE;
        }
        List<Long[]> x = rows(a, one);
        List<Long[]> y = rows(a, other);
        int many = 0;
        for (int i = 0; i < x.size() - 1; i++) {
            Long x1 = x.get(i)[2];
            Long x0 = x.get(i + 1)[2];
            Long y1 = y.get(i)[2];
            Long y0 = y.get(i + 1)[2];
            if (x1 != null && x0 != null && y1 != null && y0 != null && (x1 > x0 && y1 > y0 || x1 < x0 && y1 < y0)) {
                many++;
            }
        }
        return many;
    }

    int left(int a) {
        return isArchive(a) ? (done(a) + 1) * units(a) - past().time : NONE;
    }

    int gap(int a, int m, int what) {
        if (!isArchive(a) || !isMeasure(m) || what < 0 || what > 1) {
            return NONE;
        }
        StringBuilder unknown = new StringBuilder();
        for (Long[] row : rows(a, m)) {
            unknown.append(row[2] == null ? 'u' : 'k');
        }
        for (int n = 30; n > 0; n--) {
            int at = unknown.indexOf("u".repeat(n));
            if (at >= 0) {
                return what == 0 ? n : at;
            }
        }
        return what == 0 ? 0 : NONE;
    }

    long total(int a, int m, int from, int to) {
        if (!isArchive(a) || !isMeasure(m)) {
            return 0;
        }
        long sum = 0;
        for (Long[] row : rows(a, m)) {
            if (row[0] >= from && row[1] <= to && row[2] != null) {
                sum += row[2] * (row[1] - row[0]);
            }
        }
        return sum / 1000;
    }

    int rise(int a, int m) {
        if (!isArchive(a) || !isMeasure(m)) {
            return UNKNOWN;
        }
        List<Long[]> rows = rows(a, m);
        BigInteger n = BigInteger.ZERO;
        BigInteger sx = BigInteger.ZERO;
        BigInteger sy = BigInteger.ZERO;
        BigInteger sxx = BigInteger.ZERO;
        BigInteger sxy = BigInteger.ZERO;
        for (int i = 0; i < rows.size(); i++) {
            if (rows.get(i)[2] != null) {
                BigInteger x = BigInteger.valueOf(rows.size() - 1 - i);
                BigInteger y = BigInteger.valueOf(rows.get(i)[2]);
                n = n.add(BigInteger.ONE);
                sx = sx.add(x);
                sy = sy.add(y);
                sxx = sxx.add(x.multiply(x));
                sxy = sxy.add(x.multiply(y));
            }
        }
        if (n.intValue() < 2) {
            return UNKNOWN;
        }
        return n.multiply(sxy).subtract(sx.multiply(sy)).divide(n.multiply(sxx).subtract(sx.multiply(sx))).intValueExact();
    }

    int best(int how, int from) {
        if (how < 0 || how > 3 || from < 0) {
            return NONE;
        }
        int found = NONE;
        long[] least = null;
        for (int a = 0; a < text.archives.size(); a++) {
            List<Long[]> rows = rows(a, -1);
            if (archive(a, 0) == how && !rows.isEmpty()) {
                long begin = Math.max(0, rows.get(rows.size() - 1)[0] - from);
                long[] rank = {begin, text.archives.get(a).per};
                if (least == null || rank[0] < least[0] || rank[0] == least[0] && rank[1] < least[1]) {
                    least = rank;
                    found = a;
                }
            }
        }
        return found;
    }

    private Forecasting forecasting(int m) {
        return isMeasure(m) ? past().forecasts.get(m) : null;
    }

    int forecast(int m, int what) {
        Forecasting f = forecasting(m);
        if (f == null || what < 0 || what > 5) {
            return UNKNOWN;
        }
        Forecast plan = text.measures.get(m).forecast;
        return told(List.of(f.level, f.trend, f.began ? 1L : 0L, (long) plan.season, (long) plan.band,
            (long) Math.min(30, f.told.size())).get(what));
    }

    int place(int m, int place, int what) {
        if (forecasting(m) == null || place < 0 || place >= text.measures.get(m).forecast.season || what < 0 || what > 1) {
            return UNKNOWN;
        }
        return told(what == 0 ? forecasting(m).swing[place] : forecasting(m).spread[place]);
    }

    int told(int m, int i, int what) {
        Forecasting f = forecasting(m);
        if (f == null || i < 0 || i >= Math.min(30, f.told.size()) || what < 0 || what > 1) {
            return UNKNOWN;
        }
        int at = f.told.size() - 1 - i;
        return what == 0 ? told(f.told.get(at)) : f.odd.get(at) ? 1 : 0;
    }

    /** Whether odd, the latest first. */
    private List<Boolean> odds(Forecasting f) {
        List<Boolean> odds = new ArrayList<>();
        for (int k = f.odd.size() - 1; k >= 0 && odds.size() < 30; k--) {
            odds.add(f.odd.get(k));
        }
        return odds;
    }

    private static int trues(List<Boolean> list) {
        return (int) list.stream().filter(b -> b).count();
    }

    int odd(int m, int n) {
        if (forecasting(m) == null || n < 1 || n > 30) {
            return UNKNOWN;
        }
        List<Boolean> odds = odds(forecasting(m));
        return trues(odds.subList(0, Math.min(n, odds.size())));
    }

    int alarms(int m, int n, int many) {
        if (forecasting(m) == null || n < 1 || n > 30 || many < 0 || many > 30) {
            return UNKNOWN;
        }
        List<Boolean> odds = odds(forecasting(m));
        int found = 0;
        for (int i = 0; i + n <= odds.size(); i++) {
            found += trues(odds.subList(i, i + n)) >= many ? 1 : 0;
        }
        return found;
    }

    int ahead(int m, int n) {
        Forecasting f = forecasting(m);
        if (f == null || n < 1 || n > 48 || !f.began) {
            return UNKNOWN;
        }
        // no values coming: as many steps more as unknown ones, and see what is told of the last
        List<Long> values = new ArrayList<>(past().values.get(m));
        for (int k = 0; k < n; k++) {
            values.add(null);
        }
        List<Long> told = Past.follow(text.measures.get(m).forecast, values).told;
        return told(told.get(told.size() - 1));
    }

    private Long showOf(int show, int a, int number) {
        Long[] measures = new Long[text.measures.size()];
        for (int m = 0; m < measures.length; m++) {
            measures[m] = past().rowOf(a, m, number);
        }
        Long[] shows = new Long[show + 1];
        for (int s = 0; s <= show; s++) {
            shows[s] = text.shows.get(s).of(measures, shows);
        }
        return shows[show];
    }

    int show(int show, int a, int i) {
        if (show < 0 || show >= text.shows.size() || !isArchive(a) || i < 0 || i >= rows(a, -1).size()) {
            return UNKNOWN;
        }
        return told(showOf(show, a, done(a) - 1 - i));
    }

    int shows(int show, int a, int what) {
        if (show < 0 || show >= text.shows.size() || !isArchive(a) || what < 0 || what > 3) {
            return UNKNOWN;
        }
        List<Long> all = new ArrayList<>();
        for (int i = 0; i < rows(a, -1).size(); i++) {
            all.add(showOf(show, a, done(a) - 1 - i));
        }
        List<Long> known = new ArrayList<>(all);
        known.removeIf(v -> v == null);
        if (what == 0) {
            return known.size();
        }
        if (known.isEmpty()) {
            return UNKNOWN;
        }
        Long most = known.stream().max(Long::compare).get();
        return what == 1 ? told(most) : what == 2 ? told(known.stream().min(Long::compare).get()) : all.indexOf(most);
    }

    /** Done for once, on acts of its own. */
    int would(int later, int number, int m, int what) {
        if (!isMeasure(m) || !canRead(later) || what < 0 || what > 2) {
            return UNKNOWN;
        }
        List<int[]> more = new ArrayList<>(acts.subList(0, applied));
        int[] act = {0, later, 0, 0, 0, 0};
        act[2 + m] = number;
        more.add(act);
        Past then = new Past(text, more);
        if (what == 2) {
            return then.stepsOver() - past().stepsOver();
        }
        if (what == 0) {
            return told(then.rate[m]);
        }
        return then.stepsOver() == 0 ? UNKNOWN : told(then.values.get(m).get(then.stepsOver() - 1));
    }

    int fits(int later, int m) {
        if (!isMeasure(m) || !canRead(later)) {
            return NONE;
        }
        for (int number = 0; number <= 999_999; number++) {
            if (past().rateOf(m, later, number) != null) {
                return number;
            }
        }
        return NONE;
    }

    int law() {
        return 0;
    }

    int about(int what) {
        int forecasts = 0;
        for (int m = 0; m < text.measures.size(); m++) {
            forecasts += text.measures.get(m).forecast == null ? 0 : (int) Math.pow(2, m);
        }
        int[] all = {text.step, text.measures.size(), text.archives.size(), text.shows.size(), forecasts, past().time,
            past().stepsOver(), past().readings, text.units, applied - fixed, acts.size() - applied, tape.length()};
        return what < 0 || what >= all.length ? NONE : all[what];
    }
}
