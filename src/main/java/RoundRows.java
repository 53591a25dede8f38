/** Measures kept in rings of rows, with forecasts and shows: see README.md and the document's promises. */
public final class RoundRows {
    public static final int NONE = -1;
    public static final int UNKNOWN = -2147483648;

    private static final int TAPE_MOST = 1000;
    private static final int FEED_BYTES = 20;

    private static final int MEASURES_MOST = 4;
    private static final int ARCHIVES_MOST = 4;
    private static final int SHOWS_MOST = 4;
    private static final int UNITS_MOST = 30;
    private static final int WITHIN_MOST = 4;
    private static final int STEP_MOST = 60;
    private static final int SILENCE_MOST = 1000;
    private static final int NUMBER_MOST = 999_999;
    private static final int WIDTH_LEAST = 4;
    private static final int WIDTH_MOST = 20;
    private static final int PER_MOST = 12;
    private static final int ROWS_MOST = 30;
    private static final int SHARE_MOST = 9;
    private static final int SEASON_LEAST = 2;
    private static final int SEASON_MOST = 24;
    private static final int WEIGHT_MOST = 16;
    private static final int BAND_MOST = 9;
    private static final int CONSTANT_MOST = 9999;

    private static final int LATER_MOST = 1000;
    private static final int TIME_MOST = 100_000;
    private static final int TOLD_MOST = 30;
    private static final int AHEAD_MOST = 48;
    private static final int ACTS_MOST = 12;
    private static final int STATES = ACTS_MOST + 1;
    private static final int BOXES = 2;
    private static final int HELD_MOST = 2_000_000_000;
    private static final int THOUSAND = 1000;
    private static final int HUNDRED = 100;

    private static final int GAUGE = 0;
    private static final int AMOUNT = 1;
    private static final int COUNTER = 2;

    private static final int MEAN = 0;
    private static final int GREATEST = 1;
    private static final int SMALLEST = 2;
    private static final int LATEST = 3;

    /** The words that stand for themselves, each with a blank behind it; their kinds are FIRST_WORD on, in this order. */
    private static final String WORDS =
            "step measure gauge amount counter silence least most archive mean latest by share forecast season band show or ";

    /** Kinds of tokens; a sign's kind is its character. */
    private static final int KIND_END = 1;
    private static final int KIND_BAD = 2;
    private static final int KIND_NUMBER = 3;
    private static final int KIND_NAME = 4;
    private static final int FIRST_WORD = 256;
    private static final int WORD_STEP = 256;
    private static final int WORD_MEASURE = 257;
    private static final int WORD_GAUGE = 258;
    private static final int WORD_AMOUNT = 259;
    private static final int WORD_COUNTER = 260;
    private static final int WORD_SILENCE = 261;
    private static final int WORD_LEAST = 262;
    private static final int WORD_MOST = 263;
    private static final int WORD_ARCHIVE = 264;
    private static final int WORD_MEAN = 265;
    private static final int WORD_LATEST = 266;
    private static final int WORD_BY = 267;
    private static final int WORD_SHARE = 268;
    private static final int WORD_FORECAST = 269;
    private static final int WORD_SEASON = 270;
    private static final int WORD_BAND = 271;
    private static final int WORD_SHOW = 272;
    private static final int WORD_OR = 273;

    /** What a formula's code does, beside the signs + - * / and the word or. */
    private static final int CODE_NUMBER = 1;
    private static final int CODE_MEASURE = 2;
    private static final int CODE_SHOW = 3;
    /** Each unit and each sign between units is one code at most. */
    private static final int CODES_MOST = 2 * UNITS_MOST;

    private static final int FAULT_TOKEN = 1;
    private static final int FAULT_NUMBER = 2;
    private static final int FAULT_NAME = 3;
    private static final int FAULT_MANY = 4;

    private final Tape tape;
    private final Parser parser;
    private Plan plan;
    /** A text is read into this one, so that a fault leaves the plan as it is. */
    private Plan spare;
    /** A ring: the states behind acts that can be taken back or done again lie around the present one. */
    private final State[] states;
    private int present;
    private int undoable;
    private int redoable;
    private final State[] boxes;
    private final boolean[] boxFull;
    private int fault;
    private int faultPlace;
    private final int[] numbers;
    private final Tally tally;

    public RoundRows() {
        tape = new Tape();
        parser = new Parser();
        plan = new Plan();
        spare = new Plan();
        states = new State[STATES];
        for (int i = 0; i < STATES; i++) {
            states[i] = new State();
        }
        boxes = new State[BOXES];
        for (int i = 0; i < BOXES; i++) {
            boxes[i] = new State();
        }
        boxFull = new boolean[BOXES];
        faultPlace = NONE;
        numbers = new int[MEASURES_MOST];
        tally = new Tally();
    }

    // ---- the text

    public int feed(int a, int b, int c, int d, int e) {
        if (tape.length + FEED_BYTES > TAPE_MOST) {
            return NONE;
        }
        tape.put(a);
        tape.put(b);
        tape.put(c);
        tape.put(d);
        tape.put(e);
        return tape.length;
    }

    public int end(int n) {
        if (n < 0 || n > tape.length) {
            return NONE;
        }
        tape.length = n;
        return n;
    }

    public int store() {
        tape.scan();
        boolean good = parser.parse(tape, spare);
        fault = parser.fault;
        faultPlace = parser.place;
        tape.length = 0;
        if (!good) {
            return NONE;
        }
        Plan old = plan;
        plan = spare;
        spare = old;
        now().begin(plan);
        forgetActs();
        for (int i = 0; i < BOXES; i++) {
            boxFull[i] = false;
        }
        return plan.measureCount;
    }

    public int fault(int what) {
        switch (what) {
            case 0:
                return fault;
            case 1:
                return faultPlace;
            default:
                return NONE;
        }
    }

    // ---- acts, and what takes them back

    public int read(int later, int a, int b, int c, int d) {
        if (!canPass(later)) {
            return NONE;
        }
        numbers[0] = a;
        numbers[1] = b;
        numbers[2] = c;
        numbers[3] = d;
        return newAct().pass(plan, later, numbers);
    }

    public int turn(int measure, int what, int v) {
        if (!isMeasure(measure) || !now().meters[measure].canTurn(what, v)) {
            return NONE;
        }
        return newAct().meters[measure].bound(what, v);
    }

    public boolean undo() {
        if (undoable == 0) {
            return false;
        }
        present = (present + STATES - 1) % STATES;
        undoable--;
        redoable++;
        return true;
    }

    public boolean redo() {
        if (redoable == 0) {
            return false;
        }
        present = (present + 1) % STATES;
        undoable++;
        redoable--;
        return true;
    }

    public int image(int box) {
        if (!isBox(box)) {
            return NONE;
        }
        boxes[box].copy(now());
        boxFull[box] = true;
        return now().time;
    }

    public int back(int box) {
        if (!isBox(box) || !boxFull[box]) {
            return NONE;
        }
        now().copy(boxes[box]);
        forgetActs();
        return now().time;
    }

    private State now() {
        return states[present];
    }

    /** The present state's copy, to be changed by an act; the state ahead of the act stays in the ring. */
    private State newAct() {
        int next = (present + 1) % STATES;
        states[next].copy(states[present]);
        present = next;
        undoable = Math.min(undoable + 1, ACTS_MOST);
        redoable = 0;
        return states[next];
    }

    private void forgetActs() {
        undoable = 0;
        redoable = 0;
    }

    private boolean canPass(int later) {
        return later >= 1 && later <= LATER_MOST && later <= TIME_MOST - now().time;
    }

    // ---- measures

    public int measure(int measure, int what) {
        if (!isMeasure(measure)) {
            return NONE;
        }
        Meter meter = now().meters[measure];
        switch (what) {
            case 0:
                return meter.silence;
            case 1:
                return meter.least;
            case 2:
                return meter.most;
            case 3:
                return plan.measures[measure].sort;
            case 4:
                return meter.units;
            case 5:
                return meter.last;
            default:
                return NONE;
        }
    }

    public int rate(int measure) {
        return isMeasure(measure) ? now().meters[measure].rate : UNKNOWN;
    }

    public int value(int measure) {
        return isMeasure(measure) ? now().meters[measure].value : UNKNOWN;
    }

    public int would(int later, int number, int measure, int what) {
        if (!isMeasure(measure) || !canPass(later)) {
            return UNKNOWN;
        }
        int rate = now().meters[measure].rateBy(plan.measures[measure], later, number);
        switch (what) {
            case 0:
                return rate;
            case 1:
                return valueBy(later, rate, measure);
            case 2:
                return stepsBy(later);
            default:
                return UNKNOWN;
        }
    }

    public int fits(int later, int measure) {
        if (!isMeasure(measure) || !canPass(later)) {
            return NONE;
        }
        return now().meters[measure].leastFit(plan.measures[measure], later);
    }

    private int stepsBy(int later) {
        return quotient(now().time + later, plan.step) - stepsOver();
    }

    private int valueBy(int later, int rate, int measure) {
        Meter meter = now().meters[measure];
        int steps = stepsBy(later);
        if (steps == 0) {
            return meter.value;
        }
        if (steps > 1) {
            return rate;
        }
        if (rate == UNKNOWN) {
            return valueOf(meter.sum, meter.units, plan.step);
        }
        int rest = plan.step - remainder(now().time, plan.step);
        return valueOf(meter.sum + (long) rate * rest, meter.units + rest, plan.step);
    }

    // ---- archives

    public int archive(int archive, int what) {
        if (!isArchive(archive)) {
            return NONE;
        }
        ArchivePlan its = plan.archives[archive];
        switch (what) {
            case 0:
                return its.how;
            case 1:
                return its.per;
            case 2:
                return its.rows;
            case 3:
                return its.share;
            case 4:
                return keptRows(archive);
            case 5:
                return keptRows(archive) == 0 ? NONE : rowEnd(archive, 0);
            case 6:
                return remainder(stepsOver(), its.per);
            default:
                return NONE;
        }
    }

    public int row(int archive, int measure, int i) {
        return hasRows(archive, measure) ? rowTold(archive, measure, i) : UNKNOWN;
    }

    public int rowAt(int archive, int time) {
        if (!isArchive(archive)) {
            return NONE;
        }
        int kept = keptRows(archive);
        for (int i = 0; i < kept; i++) {
            if (rowBegin(archive, i) < time && time <= rowEnd(archive, i)) {
                return i;
            }
        }
        return NONE;
    }

    public int over(int archive, int measure, int from, int to, int what) {
        if (!hasRows(archive, measure)) {
            return UNKNOWN;
        }
        int rows = tallyWithin(archive, measure, from, to);
        switch (what) {
            case 0:
                return rows;
            case 1:
                return tally.known;
            case 2:
                return tally.mean();
            case 3:
                return tally.greatest;
            case 4:
                return tally.least;
            case 5:
                return (rows - tally.known) * rowUnits(archive);
            default:
                return UNKNOWN;
        }
    }

    public long total(int archive, int measure, int from, int to) {
        if (!hasRows(archive, measure)) {
            return 0;
        }
        tallyWithin(archive, measure, from, to);
        return tally.sum * rowUnits(archive) / THOUSAND;
    }

    public int share(int archive, int measure, int hundredths) {
        if (!hasRows(archive, measure) || hundredths < 0 || hundredths > HUNDRED) {
            return UNKNOWN;
        }
        int known = rowsUpTo(archive, measure, HELD_MOST);
        int kept = keptRows(archive);
        int found = UNKNOWN;
        for (int i = 0; i < kept; i++) {
            int v = rowTold(archive, measure, i);
            boolean enough = v != UNKNOWN && HUNDRED * rowsUpTo(archive, measure, v) >= hundredths * known;
            if (enough && (found == UNKNOWN || v < found)) {
                found = v;
            }
        }
        return found;
    }

    public int smooth(int archive, int measure, int n, int i) {
        if (!hasRows(archive, measure) || n < 1 || n > ROWS_MOST || i < 0 || i >= keptRows(archive)) {
            return UNKNOWN;
        }
        tally.clear();
        for (int k = i; k < i + n; k++) {
            tally.add(rowTold(archive, measure, k), 1);
        }
        return tally.mean();
    }

    public int alike(int archive, int one, int other) {
        if (!hasRows(archive, one) || !isMeasure(other)) {
            return NONE;
        }
        int kept = keptRows(archive);
        int many = 0;
        for (int i = 0; i + 1 < kept; i++) {
            int way = wayOf(archive, one, i);
            if (way != 0 && way == wayOf(archive, other, i)) {
                many++;
            }
        }
        return many;
    }

    public int left(int archive) {
        if (!isArchive(archive)) {
            return NONE;
        }
        return rowUnits(archive) - remainder(now().time, rowUnits(archive));
    }

    public int gap(int archive, int measure, int what) {
        if (!hasRows(archive, measure)) {
            return NONE;
        }
        int kept = keptRows(archive);
        int most = 0;
        int latest = NONE;
        int run = 0;
        for (int i = 0; i < kept; i++) {
            run = rowTold(archive, measure, i) == UNKNOWN ? run + 1 : 0;
            if (run > most) {
                most = run;
                latest = i - run + 1;
            }
        }
        switch (what) {
            case 0:
                return most;
            case 1:
                return latest;
            default:
                return NONE;
        }
    }

    public int rise(int archive, int measure) {
        if (!hasRows(archive, measure)) {
            return UNKNOWN;
        }
        int kept = keptRows(archive);
        long n = 0;
        long sumX = 0;
        long sumY = 0;
        long sumXX = 0;
        long sumXY = 0;
        for (int x = 0; x < kept; x++) {
            long y = rowTold(archive, measure, kept - 1 - x);
            if (y != UNKNOWN) {
                n++;
                sumX += x;
                sumY += y;
                sumXX += (long) x * x;
                sumXY += x * y;
            }
        }
        if (n < 2) {
            return UNKNOWN;
        }
        return (int) quotient(n * sumXY - sumX * sumY, n * sumXX - sumX * sumX);
    }

    public int best(int how, int from) {
        if (how < MEAN || how > LATEST || from < 0) {
            return NONE;
        }
        int found = NONE;
        for (int a = 0; a < plan.archiveCount; a++) {
            boolean counts = plan.archives[a].how == how && keptRows(a) > 0;
            if (counts && (found == NONE || tellsBetter(a, found, from))) {
                found = a;
            }
        }
        return found;
    }

    public int law() {
        int beyond = 0;
        for (int a = 0; a < plan.archiveCount; a++) {
            if (plan.archives[a].how == MEAN) {
                for (int m = 0; m < plan.measureCount; m++) {
                    beyond += rowsBeyond(a, m);
                }
            }
        }
        return beyond;
    }

    private boolean tellsBetter(int one, int other, int from) {
        int oneBegin = rowBegin(one, keptRows(one) - 1);
        int otherBegin = rowBegin(other, keptRows(other) - 1);
        if ((oneBegin <= from) != (otherBegin <= from)) {
            return oneBegin <= from;
        }
        if (oneBegin > from && oneBegin != otherBegin) {
            return oneBegin < otherBegin;
        }
        return plan.archives[one].per < plan.archives[other].per;
    }

    private int rowsBeyond(int archive, int measure) {
        Meter meter = now().meters[measure];
        int kept = keptRows(archive);
        int beyond = 0;
        for (int i = 0; i < kept; i++) {
            int v = rowTold(archive, measure, i);
            if (v != UNKNOWN && (v > meter.everGreatest || v < meter.everLeast)) {
                beyond++;
            }
        }
        return beyond;
    }

    /** Puts the known rows that lie wholly within into the tally; answers how many rows lie so. */
    private int tallyWithin(int archive, int measure, int from, int to) {
        int kept = keptRows(archive);
        int rows = 0;
        tally.clear();
        for (int i = 0; i < kept; i++) {
            if (rowBegin(archive, i) >= from && rowEnd(archive, i) <= to) {
                rows++;
                tally.add(rowTold(archive, measure, i), 1);
            }
        }
        return rows;
    }

    /** How many known rows tell no more than a bound. */
    private int rowsUpTo(int archive, int measure, int bound) {
        int kept = keptRows(archive);
        int rows = 0;
        for (int i = 0; i < kept; i++) {
            int v = rowTold(archive, measure, i);
            if (v != UNKNOWN && v <= bound) {
                rows++;
            }
        }
        return rows;
    }

    /** 1 if a row told more than the one ahead of it, -1 if less, 0 if like or one of them is not known. */
    private int wayOf(int archive, int measure, int i) {
        int later = rowTold(archive, measure, i);
        int ahead = rowTold(archive, measure, i + 1);
        if (later == UNKNOWN || ahead == UNKNOWN || later == ahead) {
            return 0;
        }
        return later > ahead ? 1 : -1;
    }

    /** Of an archive and a measure that are there. */
    private int rowTold(int archive, int measure, int i) {
        if (i < 0 || i >= keptRows(archive)) {
            return UNKNOWN;
        }
        return now().rings[archive].rowOf(rowsDone(archive) - 1 - i, measure);
    }

    private int rowEnd(int archive, int i) {
        return (rowsDone(archive) - i) * rowUnits(archive);
    }

    private int rowBegin(int archive, int i) {
        return rowEnd(archive, i) - rowUnits(archive);
    }

    private int rowUnits(int archive) {
        return plan.archives[archive].per * plan.step;
    }

    private int keptRows(int archive) {
        return Math.min(rowsDone(archive), plan.archives[archive].rows);
    }

    private int rowsDone(int archive) {
        return quotient(now().time, rowUnits(archive));
    }

    private int stepsOver() {
        return quotient(now().time, plan.step);
    }

    // ---- forecasts

    public int forecast(int measure, int what) {
        if (!hasForecast(measure)) {
            return UNKNOWN;
        }
        Outlook outlook = now().outlooks[measure];
        switch (what) {
            case 0:
                return outlook.level;
            case 1:
                return outlook.trend;
            case 2:
                return outlook.began ? 1 : 0;
            case 3:
                return plan.measures[measure].season;
            case 4:
                return plan.measures[measure].band;
            case 5:
                return outlook.kept();
            default:
                return UNKNOWN;
        }
    }

    public int place(int measure, int place, int what) {
        if (!hasForecast(measure) || place < 0 || place >= plan.measures[measure].season) {
            return UNKNOWN;
        }
        Outlook outlook = now().outlooks[measure];
        switch (what) {
            case 0:
                return outlook.swing[place];
            case 1:
                return outlook.spread[place];
            default:
                return UNKNOWN;
        }
    }

    public int told(int measure, int i, int what) {
        if (!hasForecast(measure) || i < 0 || i >= now().outlooks[measure].kept()) {
            return UNKNOWN;
        }
        Outlook outlook = now().outlooks[measure];
        switch (what) {
            case 0:
                return outlook.toldOf(i);
            case 1:
                return outlook.isOdd(i) ? 1 : 0;
            default:
                return UNKNOWN;
        }
    }

    public int odd(int measure, int n) {
        if (!hasForecast(measure) || n < 1 || n > TOLD_MOST) {
            return UNKNOWN;
        }
        return now().outlooks[measure].oddFrom(0, n);
    }

    public int alarms(int measure, int n, int many) {
        if (!hasForecast(measure) || n < 1 || n > TOLD_MOST || many < 0 || many > TOLD_MOST) {
            return UNKNOWN;
        }
        Outlook outlook = now().outlooks[measure];
        int found = 0;
        for (int i = 0; i + n <= outlook.kept(); i++) {
            if (outlook.oddFrom(i, n) >= many) {
                found++;
            }
        }
        return found;
    }

    public int ahead(int measure, int n) {
        if (!hasForecast(measure) || n < 1 || n > AHEAD_MOST || !now().outlooks[measure].began) {
            return UNKNOWN;
        }
        int place = remainder(stepsOver() + n - 1, plan.measures[measure].season);
        return now().outlooks[measure].tellAhead(n, place);
    }

    // ---- shows

    public int show(int show, int archive, int i) {
        if (!isShow(show) || !isArchive(archive)) {
            return UNKNOWN;
        }
        return showOf(show, archive, i);
    }

    public int shows(int show, int archive, int what) {
        if (!isShow(show) || !isArchive(archive)) {
            return UNKNOWN;
        }
        int kept = keptRows(archive);
        int first = UNKNOWN;
        tally.clear();
        for (int i = 0; i < kept; i++) {
            int v = showOf(show, archive, i);
            if (v != UNKNOWN && (tally.known == 0 || v > tally.greatest)) {
                first = i;
            }
            tally.add(v, 1);
        }
        switch (what) {
            case 0:
                return tally.known;
            case 1:
                return tally.greatest;
            case 2:
                return tally.least;
            case 3:
                return first;
            default:
                return UNKNOWN;
        }
    }

    private int showOf(int show, int archive, int i) {
        if (i < 0 || i >= keptRows(archive)) {
            return UNKNOWN;
        }
        return plan.formulas.tell(show, now().rings[archive], rowsDone(archive) - 1 - i);
    }

    // ---- about

    public int about(int what) {
        switch (what) {
            case 0:
                return plan.step;
            case 1:
                return plan.measureCount;
            case 2:
                return plan.archiveCount;
            case 3:
                return plan.formulas.shows;
            case 4:
                return forecastBits();
            case 5:
                return now().time;
            case 6:
                return stepsOver();
            case 7:
                return now().readings;
            case 8:
                return plan.formulas.units;
            case 9:
                return undoable;
            case 10:
                return redoable;
            case 11:
                return tape.length;
            default:
                return NONE;
        }
    }

    private int forecastBits() {
        int bits = 0;
        for (int m = 0; m < plan.measureCount; m++) {
            if (hasForecast(m)) {
                bits |= 1 << m;
            }
        }
        return bits;
    }

    private boolean isMeasure(int measure) {
        return measure >= 0 && measure < plan.measureCount;
    }

    private boolean isArchive(int archive) {
        return archive >= 0 && archive < plan.archiveCount;
    }

    private boolean isShow(int show) {
        return show >= 0 && show < plan.formulas.shows;
    }

    private boolean isBox(int box) {
        return box >= 0 && box < BOXES;
    }

    private boolean hasRows(int archive, int measure) {
        return isArchive(archive) && isMeasure(measure);
    }

    private boolean hasForecast(int measure) {
        return isMeasure(measure) && plan.measures[measure].season > 0;
    }

    // ---- reckoning

    private static int held(long v) {
        if (v > HELD_MOST) {
            return HELD_MOST;
        }
        return v < -HELD_MOST ? -HELD_MOST : (int) v;
    }

    private static long quotient(long whole, long part) {
        return part == 0 ? 0 : whole / part;
    }

    private static int quotient(int whole, int part) {
        return part == 0 ? 0 : whole / part;
    }

    private static int remainder(int whole, int part) {
        return part == 0 ? 0 : whole % part;
    }

    /** The value of a step of which so many units are known, their rates together being sum. */
    private static int valueOf(long sum, int units, int step) {
        return 2 * (step - units) >= step ? UNKNOWN : (int) quotient(sum, units);
    }

    /** The bytes that came, and the tokens that they make. */
    private static final class Tape {
        final char[] signs = new char[TAPE_MOST];
        int length;
        private final int[] kinds = new int[TAPE_MOST];
        private final int[] starts = new int[TAPE_MOST];
        private final int[] stops = new int[TAPE_MOST];
        private int tokens;

        void put(int four) {
            for (int shift = 24; shift >= 0; shift -= 8) {
                if (length < signs.length) {
                    signs[length] = (char) (four >>> shift & 255);
                    length++;
                }
            }
        }

        void scan() {
            tokens = 0;
            int at = 0;
            for (int i = 0; i < TAPE_MOST && at < length; i++) {
                int stop = at + 1;
                if (!isBlank(signs[at])) {
                    stop = stopOf(at);
                    add(kindOf(at, stop), at, stop);
                }
                at = stop;
            }
        }

        private void add(int kind, int start, int stop) {
            if (tokens < kinds.length) {
                kinds[tokens] = kind;
                starts[tokens] = start;
                stops[tokens] = stop;
                tokens++;
            }
        }

        private int stopOf(int start) {
            int stop = start + 1;
            if (isLetter(signs[start])) {
                while (stop < length && isLetter(signs[stop])) {
                    stop++;
                }
            } else if (isDigit(signs[start])) {
                while (stop < length && isDigit(signs[stop])) {
                    stop++;
                }
            }
            return stop;
        }

        private int kindOf(int start, int stop) {
            char sign = signs[start];
            if (isLetter(sign)) {
                return wordKind(start, stop);
            }
            if (isDigit(sign)) {
                return KIND_NUMBER;
            }
            boolean good = sign == ';' || sign == '=' || sign == '(' || sign == ')'
                    || sign == '+' || sign == '-' || sign == '*' || sign == '/';
            return good ? sign : KIND_BAD;
        }

        private int wordKind(int start, int stop) {
            int kind = FIRST_WORD;
            int at = start;
            boolean same = true;
            for (int i = 0; i < WORDS.length(); i++) {
                char sign = WORDS.charAt(i);
                if (sign != ' ') {
                    same = same && at < stop && signs[at] == sign;
                    at++;
                } else if (same && at == stop) {
                    return kind;
                } else {
                    kind++;
                    at = start;
                    same = true;
                }
            }
            return KIND_NAME;
        }

        private boolean isToken(int token) {
            return token >= 0 && token < tokens;
        }

        /** Behind the last token is the end. */
        int kindAt(int token) {
            return isToken(token) ? kinds[token] : KIND_END;
        }

        int placeOf(int token) {
            return isToken(token) ? starts[token] : length;
        }

        /** A token's number; one that is beyond all bounds is told as the first that is. */
        int numberOf(int token) {
            int number = 0;
            if (isToken(token)) {
                for (int i = starts[token]; i < stops[token]; i++) {
                    number = number * 10 + (signs[i] - '0');
                    if (number > NUMBER_MOST) {
                        return NUMBER_MOST + 1;
                    }
                }
            }
            return number;
        }

        boolean sameWord(int one, int other) {
            if (!isToken(one) || !isToken(other)) {
                return false;
            }
            int size = stops[one] - starts[one];
            if (size != stops[other] - starts[other]) {
                return false;
            }
            for (int i = 0; i < size; i++) {
                if (signs[starts[one] + i] != signs[starts[other] + i]) {
                    return false;
                }
            }
            return true;
        }

        private static boolean isBlank(char sign) {
            return sign == 32 || sign == 10;
        }

        private static boolean isLetter(char sign) {
            return sign >= 'a' && sign <= 'z';
        }

        private static boolean isDigit(char sign) {
            return sign >= '0' && sign <= '9';
        }
    }

    /** Reads a tape's tokens into a plan, up to the first fault. */
    private static final class Parser {
        private static final int NAMES_MOST = MEASURES_MOST + SHOWS_MOST;

        private Tape tape;
        private Plan plan;
        private int token;
        int fault;
        int place;
        /** The names told ahead: their tokens, and what they are: a measure, or MEASURES_MOST and a show. */
        private final int[] nameTokens = new int[NAMES_MOST];
        private final int[] nameBearers = new int[NAMES_MOST];
        private int names;
        /** Signs of a formula whose right side is not read yet. */
        private final int[] waiting = new int[CODES_MOST];
        private int waits;

        boolean parse(Tape from, Plan into) {
            tape = from;
            plan = into;
            plan.clear();
            token = 0;
            names = 0;
            fault = 0;
            place = NONE;
            if (kind() == KIND_END) {
                return true;
            }
            if (kind() != WORD_STEP) {
                return fail(FAULT_TOKEN);
            }
            boolean good = stepLine();
            for (int i = 0; i < TAPE_MOST && good && kind() != KIND_END; i++) {
                switch (kind()) {
                    case WORD_MEASURE:
                        good = measureLine();
                        break;
                    case WORD_ARCHIVE:
                        good = archiveLine();
                        break;
                    case WORD_FORECAST:
                        good = forecastLine();
                        break;
                    case WORD_SHOW:
                        good = showLine();
                        break;
                    default:
                        good = fail(FAULT_TOKEN);
                        break;
                }
            }
            return good;
        }

        private int kind() {
            return tape.kindAt(token);
        }

        private boolean fail(int what) {
            fault = what;
            place = tape.placeOf(token);
            return false;
        }

        private boolean take(int wanted) {
            if (kind() != wanted) {
                return fail(FAULT_TOKEN);
            }
            token++;
            return true;
        }

        /** The number that stands here, and the next token; NONE at a fault. */
        private int takeNumber(int least, int most) {
            if (kind() != KIND_NUMBER) {
                fail(FAULT_TOKEN);
                return NONE;
            }
            int number = tape.numberOf(token);
            if (number < least || number > most) {
                fail(FAULT_NUMBER);
                return NONE;
            }
            token++;
            return number;
        }

        private boolean stepLine() {
            token++;
            int step = takeNumber(1, STEP_MOST);
            if (step == NONE) {
                return false;
            }
            plan.step = step;
            return take(';');
        }

        private boolean measureLine() {
            if (plan.measureCount >= MEASURES_MOST) {
                return fail(FAULT_MANY);
            }
            MeasurePlan its = plan.measures[plan.measureCount];
            its.clear();
            token++;
            int name = token;
            if (!newName() || !sort(its) || !widths(its) || !silence(its) || !bounds(its) || !take(';')) {
                return false;
            }
            remember(name, plan.measureCount);
            plan.measureCount++;
            return true;
        }

        private boolean sort(MeasurePlan its) {
            switch (kind()) {
                case WORD_GAUGE:
                    its.sort = GAUGE;
                    break;
                case WORD_AMOUNT:
                    its.sort = AMOUNT;
                    break;
                case WORD_COUNTER:
                    its.sort = COUNTER;
                    break;
                default:
                    return fail(FAULT_TOKEN);
            }
            token++;
            return true;
        }

        private boolean widths(MeasurePlan its) {
            if (its.sort != COUNTER) {
                return true;
            }
            its.widthOne = takeNumber(WIDTH_LEAST, WIDTH_MOST);
            if (its.widthOne == NONE) {
                return false;
            }
            its.widthTwo = takeNumber(its.widthOne + 1, WIDTH_MOST);
            return its.widthTwo != NONE;
        }

        private boolean silence(MeasurePlan its) {
            if (!take(WORD_SILENCE)) {
                return false;
            }
            its.silence = takeNumber(1, SILENCE_MOST);
            return its.silence != NONE;
        }

        private boolean bounds(MeasurePlan its) {
            if (kind() == WORD_LEAST) {
                token++;
                its.least = takeNumber(0, NUMBER_MOST);
                if (its.least == NONE) {
                    return false;
                }
            }
            if (kind() == WORD_MOST) {
                token++;
                its.most = takeNumber(its.least, NUMBER_MOST);
            }
            return its.most != NONE;
        }

        private boolean archiveLine() {
            if (plan.archiveCount >= ARCHIVES_MOST) {
                return fail(FAULT_MANY);
            }
            ArchivePlan its = plan.archives[plan.archiveCount];
            token++;
            its.how = howHere();
            if (its.how == NONE) {
                return fail(FAULT_TOKEN);
            }
            token++;
            its.per = takeNumber(1, PER_MOST);
            if (its.per == NONE || !take(WORD_BY)) {
                return false;
            }
            its.rows = takeNumber(1, ROWS_MOST);
            if (its.rows == NONE || !take(WORD_SHARE)) {
                return false;
            }
            its.share = takeNumber(0, SHARE_MOST);
            if (its.share == NONE || !take(';')) {
                return false;
            }
            plan.archiveCount++;
            return true;
        }

        private int howHere() {
            switch (kind()) {
                case WORD_MEAN:
                    return MEAN;
                case WORD_MOST:
                    return GREATEST;
                case WORD_LEAST:
                    return SMALLEST;
                case WORD_LATEST:
                    return LATEST;
                default:
                    return NONE;
            }
        }

        private boolean forecastLine() {
            token++;
            if (kind() != KIND_NAME) {
                return fail(FAULT_TOKEN);
            }
            int measure = bearerHere();
            if (measure < 0 || measure >= MEASURES_MOST || plan.measures[measure].season > 0) {
                return fail(FAULT_NAME);
            }
            token++;
            return take(WORD_SEASON) && forecastNumbers(plan.measures[measure]) && take(';');
        }

        private boolean forecastNumbers(MeasurePlan its) {
            its.season = takeNumber(SEASON_LEAST, SEASON_MOST);
            if (its.season == NONE || !take(WORD_BY)) {
                return false;
            }
            its.levelWeight = takeNumber(0, WEIGHT_MOST);
            if (its.levelWeight == NONE) {
                return false;
            }
            its.trendWeight = takeNumber(0, WEIGHT_MOST);
            if (its.trendWeight == NONE) {
                return false;
            }
            its.swingWeight = takeNumber(0, WEIGHT_MOST);
            if (its.swingWeight == NONE || !take(WORD_BAND)) {
                return false;
            }
            its.band = takeNumber(1, BAND_MOST);
            return its.band != NONE;
        }

        private boolean showLine() {
            if (plan.formulas.shows >= SHOWS_MOST) {
                return fail(FAULT_MANY);
            }
            token++;
            int name = token;
            if (!newName() || !take('=') || !formula()) {
                return false;
            }
            remember(name, MEASURES_MOST + plan.formulas.shows);
            plan.formulas.endShow();
            return true;
        }

        private boolean newName() {
            if (kind() != KIND_NAME) {
                return fail(FAULT_TOKEN);
            }
            if (bearerHere() != NONE) {
                return fail(FAULT_NAME);
            }
            token++;
            return true;
        }

        private void remember(int name, int bearer) {
            if (names < nameTokens.length) {
                nameTokens[names] = name;
                nameBearers[names] = bearer;
                names++;
            }
        }

        /** What the name that stands here was told for; NONE if for nothing. */
        private int bearerHere() {
            for (int i = 0; i < names; i++) {
                if (tape.sameWord(nameTokens[i], token)) {
                    return nameBearers[i];
                }
            }
            return NONE;
        }

        /** A formula and its ; as code in which a sign comes behind both of its sides. */
        private boolean formula() {
            waits = 0;
            int open = 0;
            boolean wantsUnit = true;
            for (int i = 0; i <= TAPE_MOST; i++) {
                int here = kind();
                if (wantsUnit) {
                    if (!unit(open)) {
                        return false;
                    }
                    wantsUnit = here == '(';
                    open += wantsUnit ? 1 : 0;
                } else if (rank(here) > 0) {
                    release(rank(here));
                    await(here);
                    wantsUnit = true;
                } else if (here == ')' && open > 0) {
                    release(1);
                    waits--;
                    open--;
                } else {
                    release(1);
                    return open == 0 ? take(';') : fail(FAULT_TOKEN);
                }
                token++;
            }
            return fail(FAULT_TOKEN);
        }

        /** Tests the unit that begins here, within so many others; the token is not passed. */
        private boolean unit(int within) {
            int here = kind();
            if (here != KIND_NUMBER && here != KIND_NAME && here != '(') {
                return fail(FAULT_TOKEN);
            }
            int number = here == KIND_NUMBER ? tape.numberOf(token) : 0;
            if (number > CONSTANT_MOST) {
                return fail(FAULT_NUMBER);
            }
            int bearer = here == KIND_NAME ? bearerHere() : 0;
            if (bearer == NONE) {
                return fail(FAULT_NAME);
            }
            if (plan.formulas.units >= UNITS_MOST || within > WITHIN_MOST) {
                return fail(FAULT_MANY);
            }
            plan.formulas.units++;
            if (here == '(') {
                await(here);
            } else if (here == KIND_NUMBER) {
                plan.formulas.put(CODE_NUMBER, number * THOUSAND);
            } else if (bearer < MEASURES_MOST) {
                plan.formulas.put(CODE_MEASURE, bearer);
            } else {
                plan.formulas.put(CODE_SHOW, bearer - MEASURES_MOST);
            }
            return true;
        }

        private void await(int sign) {
            if (waits < waiting.length) {
                waiting[waits] = sign;
                waits++;
            }
        }

        /** Signs that bind as closely as rank, or closer, have their right sides now; a bracket stops them. */
        private void release(int rank) {
            while (waits > 0 && rank(waiting[waits - 1]) >= rank) {
                waits--;
                plan.formulas.put(waiting[waits], 0);
            }
        }

        private static int rank(int kind) {
            switch (kind) {
                case '*':
                case '/':
                    return 3;
                case '+':
                case '-':
                    return 2;
                case WORD_OR:
                    return 1;
                default:
                    return 0;
            }
        }
    }

    /** What a text tells. */
    private static final class Plan {
        int step = 1;
        int measureCount;
        int archiveCount;
        final MeasurePlan[] measures = new MeasurePlan[MEASURES_MOST];
        final ArchivePlan[] archives = new ArchivePlan[ARCHIVES_MOST];
        final Formulas formulas = new Formulas();

        Plan() {
            for (int m = 0; m < MEASURES_MOST; m++) {
                measures[m] = new MeasurePlan();
            }
            for (int a = 0; a < ARCHIVES_MOST; a++) {
                archives[a] = new ArchivePlan();
            }
        }

        void clear() {
            step = 1;
            measureCount = 0;
            archiveCount = 0;
            formulas.clear();
        }
    }

    /** A measure's line, and its forecast's: a season of 0 if it has none. */
    private static final class MeasurePlan {
        int sort;
        int widthOne;
        int widthTwo;
        int silence;
        int least;
        int most;
        int season;
        int levelWeight;
        int trendWeight;
        int swingWeight;
        int band;

        void clear() {
            least = 0;
            most = NUMBER_MOST;
            season = 0;
        }

        /** The greatest number that can be told. */
        int numberMost() {
            return sort == COUNTER ? Math.min(NUMBER_MOST, (1 << widthTwo) - 1) : NUMBER_MOST;
        }
    }

    private static final class ArchivePlan {
        int how;
        int per = 1;
        int rows = 1;
        int share;
    }

    /** The shows as code, one behind another. */
    private static final class Formulas {
        int shows;
        int units;
        private int length;
        private final int[] codes = new int[CODES_MOST];
        private final int[] parts = new int[CODES_MOST];
        private final int[] ends = new int[SHOWS_MOST];
        private final int[] results = new int[SHOWS_MOST];
        private final int[] stack = new int[UNITS_MOST];
        private int top;

        void clear() {
            shows = 0;
            units = 0;
            length = 0;
        }

        void put(int code, int part) {
            if (length < codes.length) {
                codes[length] = code;
                parts[length] = part;
                length++;
            }
        }

        void endShow() {
            if (shows < ends.length) {
                ends[shows] = length;
                shows++;
            }
        }

        /** Shows are reckoned in their order, since one needs only those ahead of it. */
        int tell(int show, Ring ring, int rowNumber) {
            if (show < 0 || show >= shows) {
                return UNKNOWN;
            }
            int at = 0;
            for (int s = 0; s <= show; s++) {
                top = 0;
                for (; at < ends[s]; at++) {
                    run(codes[at], parts[at], ring, rowNumber);
                }
                results[s] = pop();
            }
            return results[show];
        }

        private void run(int code, int part, Ring ring, int rowNumber) {
            switch (code) {
                case CODE_NUMBER:
                    push(part);
                    break;
                case CODE_MEASURE:
                    push(ring.rowOf(rowNumber, part));
                    break;
                case CODE_SHOW:
                    push(part >= 0 && part < results.length ? results[part] : UNKNOWN);
                    break;
                default:
                    int right = pop();
                    int left = pop();
                    push(joined(code, left, right));
                    break;
            }
        }

        private void push(int v) {
            if (top < stack.length) {
                stack[top] = v;
                top++;
            }
        }

        private int pop() {
            if (top == 0) {
                return UNKNOWN;
            }
            top--;
            return stack[top];
        }

        private static int joined(int sign, long left, long right) {
            if (sign == WORD_OR) {
                return (int) (left == UNKNOWN ? right : left);
            }
            if (left == UNKNOWN || right == UNKNOWN) {
                return UNKNOWN;
            }
            switch (sign) {
                case '+':
                    return held(left + right);
                case '-':
                    return held(left - right);
                case '*':
                    return held(left * right / THOUSAND);
                default:
                    return right == 0 ? UNKNOWN : held(left * THOUSAND / right);
            }
        }
    }

    /** All that acts change. */
    private static final class State {
        int time;
        int readings;
        final Meter[] meters = new Meter[MEASURES_MOST];
        final Outlook[] outlooks = new Outlook[MEASURES_MOST];
        final Ring[] rings = new Ring[ARCHIVES_MOST];

        State() {
            for (int m = 0; m < MEASURES_MOST; m++) {
                meters[m] = new Meter();
                outlooks[m] = new Outlook();
            }
            for (int a = 0; a < ARCHIVES_MOST; a++) {
                rings[a] = new Ring();
            }
        }

        void begin(Plan plan) {
            time = 0;
            readings = 0;
            for (int m = 0; m < MEASURES_MOST; m++) {
                meters[m].begin(plan.measures[m]);
                outlooks[m].begin();
            }
            for (int a = 0; a < ARCHIVES_MOST; a++) {
                rings[a].clearParts();
            }
        }

        void copy(State other) {
            time = other.time;
            readings = other.readings;
            for (int m = 0; m < MEASURES_MOST; m++) {
                meters[m].copy(other.meters[m]);
                outlooks[m].copy(other.outlooks[m]);
            }
            for (int a = 0; a < ARCHIVES_MOST; a++) {
                rings[a].copy(other.rings[a]);
            }
        }

        /** A reading of so many units later; answers how many steps are over by it. */
        int pass(Plan plan, int later, int[] numbers) {
            for (int m = 0; m < plan.measureCount && m < numbers.length; m++) {
                meters[m].hear(plan.measures[m], later, numbers[m]);
            }
            readings++;
            int steps = 0;
            int rest = later;
            for (int i = 0; i < later && rest > 0; i++) {
                int units = Math.min(rest, plan.step - remainder(time, plan.step));
                for (int m = 0; m < plan.measureCount; m++) {
                    meters[m].gather(units);
                }
                time += units;
                rest -= units;
                if (remainder(time, plan.step) == 0) {
                    endStep(plan, quotient(time, plan.step));
                    steps++;
                }
            }
            return steps;
        }

        /** The step of a number (from 1 on) is over. */
        private void endStep(Plan plan, int number) {
            for (int m = 0; m < plan.measureCount; m++) {
                MeasurePlan its = plan.measures[m];
                Meter meter = meters[m];
                int units = meter.units;
                meter.endStep(plan.step);
                for (int a = 0; a < plan.archiveCount; a++) {
                    rings[a].parts[m].add(meter.value, units);
                }
                if (its.season > 0) {
                    outlooks[m].follow(its, remainder(number - 1, its.season), meter.value);
                }
            }
            for (int a = 0; a < plan.archiveCount; a++) {
                ArchivePlan its = plan.archives[a];
                if (remainder(number, its.per) == 0) {
                    rings[a].endRow(its, quotient(number, its.per) - 1);
                }
            }
        }
    }

    /** A measure's state. */
    private static final class Meter {
        int silence;
        int least;
        int most;
        /** A counter's number told last. */
        int last = NONE;
        int rate = UNKNOWN;
        int value = UNKNOWN;
        /** Of the step that is not over: the known units, and their rates together. */
        int units;
        long sum;
        /** Of all values ever known; at first no value is within them. */
        int everGreatest = -HELD_MOST;
        int everLeast = HELD_MOST;

        void begin(MeasurePlan its) {
            silence = its.silence;
            least = its.least;
            most = its.most;
            last = NONE;
            rate = UNKNOWN;
            value = UNKNOWN;
            units = 0;
            sum = 0;
            everGreatest = -HELD_MOST;
            everLeast = HELD_MOST;
        }

        void copy(Meter other) {
            silence = other.silence;
            least = other.least;
            most = other.most;
            last = other.last;
            rate = other.rate;
            value = other.value;
            units = other.units;
            sum = other.sum;
            everGreatest = other.everGreatest;
            everLeast = other.everLeast;
        }

        boolean canTurn(int what, int v) {
            switch (what) {
                case 0:
                    return v >= 1 && v <= SILENCE_MOST;
                case 1:
                    return v >= 0 && v <= most;
                case 2:
                    return v >= least && v <= NUMBER_MOST;
                default:
                    return false;
            }
        }

        /** Sets what canTurn allows; answers what it was. */
        int bound(int what, int v) {
            int old = what == 0 ? silence : what == 1 ? least : most;
            if (what == 0) {
                silence = v;
            } else if (what == 1) {
                least = v;
            } else {
                most = v;
            }
            return old;
        }

        void hear(MeasurePlan its, int span, int number) {
            rate = rateBy(its, span, number);
            if (its.sort == COUNTER) {
                last = number < 0 || number > its.numberMost() ? NONE : number;
            }
        }

        int rateBy(MeasurePlan its, int span, int number) {
            if (span > silence || number < 0 || number > its.numberMost()) {
                return UNKNOWN;
            }
            if (its.sort == COUNTER && last == NONE) {
                return UNKNOWN;
            }
            long amount = its.sort == COUNTER ? risen(its, number) : number;
            long by = quotient(amount * THOUSAND, its.sort == GAUGE ? 1 : span);
            return by < (long) least * THOUSAND || by > (long) most * THOUSAND ? UNKNOWN : (int) by;
        }

        private int risen(MeasurePlan its, int number) {
            int more = number - last;
            if (more >= 0) {
                return more;
            }
            int once = more + (1 << its.widthOne);
            return once >= 0 ? once : more + (1 << its.widthTwo);
        }

        /** The least number by which the rate would be known; NONE if by none. */
        int leastFit(MeasurePlan its, int span) {
            if (span > silence) {
                return NONE;
            }
            if (its.sort == GAUGE) {
                return least;
            }
            long low = (long) least * span;
            if (its.sort == AMOUNT) {
                return low <= NUMBER_MOST ? (int) low : NONE;
            }
            return last == NONE ? NONE : leastCount(its, low, span);
        }

        /** Ever greater numbers are by the second width more, by the first, by none: in this order. */
        private int leastCount(MeasurePlan its, long low, int span) {
            // a span is 1000 at most, so one more is a thousandth more in the rate, however that is cut
            long high = (long) most * span;
            int one = 1 << its.widthOne;
            int two = 1 << its.widthTwo;
            int found = leastWithin(0, last - one - 1, two - last, low, high);
            if (found == NONE) {
                found = leastWithin(Math.max(0, last - one), last - 1, one - last, low, high);
            }
            return found == NONE ? leastWithin(last, its.numberMost(), -last, low, high) : found;
        }

        /** The least number from one to another that is, with more added, from low to high. */
        private static int leastWithin(int from, int to, int more, long low, long high) {
            long number = Math.max(from, low - more);
            return number <= to && number + more <= high ? (int) number : NONE;
        }

        void gather(int more) {
            if (rate != UNKNOWN) {
                sum += (long) rate * more;
                units += more;
            }
        }

        void endStep(int step) {
            value = valueOf(sum, units, step);
            sum = 0;
            units = 0;
            if (value != UNKNOWN) {
                everGreatest = Math.max(everGreatest, value);
                everLeast = Math.min(everLeast, value);
            }
        }
    }

    /** Known ones of many: their sum by weights, the greatest, the least, the latest. */
    private static final class Tally {
        long sum;
        int weight;
        int known;
        int greatest = UNKNOWN;
        int least = UNKNOWN;
        int latest = UNKNOWN;

        void clear() {
            sum = 0;
            weight = 0;
            known = 0;
            greatest = UNKNOWN;
            least = UNKNOWN;
            latest = UNKNOWN;
        }

        void copy(Tally other) {
            sum = other.sum;
            weight = other.weight;
            known = other.known;
            greatest = other.greatest;
            least = other.least;
            latest = other.latest;
        }

        void add(int v, int by) {
            if (v == UNKNOWN) {
                return;
            }
            greatest = known == 0 ? v : Math.max(greatest, v);
            least = known == 0 ? v : Math.min(least, v);
            latest = v;
            sum += (long) v * by;
            weight += by;
            known++;
        }

        int mean() {
            return weight == 0 ? UNKNOWN : (int) (sum / weight);
        }

        int by(int how) {
            switch (how) {
                case MEAN:
                    return mean();
                case GREATEST:
                    return greatest;
                case SMALLEST:
                    return least;
                default:
                    return latest;
            }
        }
    }

    /** An archive's state: the rows, and what its row that is not over has of each measure. */
    private static final class Ring {
        private static final int CELLS = ROWS_MOST * MEASURES_MOST;

        private final int[] cells = new int[CELLS];
        final Tally[] parts = new Tally[MEASURES_MOST];

        Ring() {
            for (int m = 0; m < MEASURES_MOST; m++) {
                parts[m] = new Tally();
            }
        }

        void clearParts() {
            for (int m = 0; m < MEASURES_MOST; m++) {
                parts[m].clear();
            }
        }

        void copy(Ring other) {
            System.arraycopy(other.cells, 0, cells, 0, CELLS);
            for (int m = 0; m < MEASURES_MOST; m++) {
                parts[m].copy(other.parts[m]);
            }
        }

        /** What the row of a number (from 0 on) tells, if it is still kept. */
        int rowOf(int number, int measure) {
            boolean there = number >= 0 && measure >= 0 && measure < MEASURES_MOST;
            return there ? cells[number % ROWS_MOST * MEASURES_MOST + measure] : UNKNOWN;
        }

        void endRow(ArchivePlan its, int number) {
            if (number < 0) {
                return;
            }
            for (int m = 0; m < MEASURES_MOST; m++) {
                boolean known = 10 * (its.per - parts[m].known) <= its.share * its.per;
                cells[number % ROWS_MOST * MEASURES_MOST + m] = known ? parts[m].by(its.how) : UNKNOWN;
            }
            clearParts();
        }
    }

    /** A forecast's state. */
    private static final class Outlook {
        boolean began;
        int level;
        int trend;
        final int[] swing = new int[SEASON_MOST];
        final int[] spread = new int[SEASON_MOST];
        /** A ring of what was told, the next one's place being tells modulo TOLD_MOST. */
        private final int[] told = new int[TOLD_MOST];
        private final boolean[] odd = new boolean[TOLD_MOST];
        private int tells;

        void begin() {
            began = false;
            level = 0;
            trend = 0;
            tells = 0;
            for (int p = 0; p < SEASON_MOST; p++) {
                swing[p] = 0;
                spread[p] = 0;
            }
        }

        void copy(Outlook other) {
            began = other.began;
            level = other.level;
            trend = other.trend;
            tells = other.tells;
            System.arraycopy(other.swing, 0, swing, 0, SEASON_MOST);
            System.arraycopy(other.spread, 0, spread, 0, SEASON_MOST);
            System.arraycopy(other.told, 0, told, 0, TOLD_MOST);
            System.arraycopy(other.odd, 0, odd, 0, TOLD_MOST);
        }

        /** The value of the next step, which is of a place. */
        void follow(MeasurePlan its, int place, int v) {
            if (place < 0 || place >= SEASON_MOST) {
                return;
            }
            if (!began) {
                began = v != UNKNOWN;
                level = began ? v : 0;
                return;
            }
            int tell = tellAhead(1, place);
            if (v == UNKNOWN) {
                keep(tell, false);
                level = held((long) level + trend);
                return;
            }
            long far = Math.abs((long) v - tell);
            keep(tell, spread[place] > 0 && far > (long) its.band * spread[place]);
            int newLevel = mixed(its.levelWeight, (long) v - swing[place], (long) level + trend);
            trend = mixed(its.trendWeight, (long) newLevel - level, trend);
            level = newLevel;
            swing[place] = mixed(its.swingWeight, (long) v - newLevel, swing[place]);
            spread[place] = mixed(its.swingWeight, far, spread[place]);
        }

        private static int mixed(int weight, long fresh, long old) {
            return held((weight * fresh + (WEIGHT_MOST - weight) * old) / WEIGHT_MOST);
        }

        private void keep(int tell, boolean isOdd) {
            int slot = tells % TOLD_MOST;
            if (slot >= 0) {
                told[slot] = tell;
                odd[slot] = isOdd;
                tells++;
            }
        }

        /** What it tells of the n-th step from now on, which is of a place, if no values come. */
        int tellAhead(int n, int place) {
            int then = level;
            for (int i = 1; i < n; i++) {
                then = held((long) then + trend);
            }
            int its = place >= 0 && place < SEASON_MOST ? swing[place] : 0;
            return held((long) then + trend + its);
        }

        int kept() {
            return Math.min(tells, TOLD_MOST);
        }

        /** The place in the ring of the i-th latest, if that is kept. */
        private int slotOf(int i) {
            return i >= 0 && i < kept() ? (tells - 1 - i) % TOLD_MOST : NONE;
        }

        int toldOf(int i) {
            int slot = slotOf(i);
            return slot < 0 ? UNKNOWN : told[slot];
        }

        boolean isOdd(int i) {
            int slot = slotOf(i);
            return slot >= 0 && odd[slot];
        }

        /** How many are odd of n one behind another, the latest of them being the i-th latest. */
        int oddFrom(int i, int n) {
            int many = 0;
            for (int k = i; k < i + n; k++) {
                if (isOdd(k)) {
                    many++;
                }
            }
            return many;
        }
    }
}
