/** A bench with an instrument of four traces: see README.md for how it is used. */
public final class TraceBench {
    public static final int BAD = -1, STATE = -2, FULL = -3, NONE = -4;

    private static final int TRACES = 4;
    private static final int NO_NUMBER = 1000;

    private static final int TAPE_BYTES = 200;
    private static final int RING_SAMPLES = 256;
    private static final int MOST_STAGES = 6;
    private static final int MOST_SEGMENTS = 8;
    private static final int MOST_AROUND = 100;
    private static final int MOST_PLACES = 2 * MOST_AROUND + 1;
    private static final int MOST_PLAYED = 64;
    private static final int ROWS = 4;

    private static final int SHEETS = 4;
    private static final int LANES = 3;
    private static final int MOST_CELLS = 64;

    /** Faults of the machine are answered as this less their number. */
    private static final int REFUSED = -10;
    private static final int FAULT_NULL = 1, FAULT_INDEX = 2, FAULT_CAST = 3, FAULT_SIZE = 4;

    private static final int FLAW_TOKEN = 1, FLAW_ORDER = 2, FLAW_BOUNDS = 3, FLAW_STAGES = 4, FLAW_LEVELS = 5;

    private static final int IDLE = 0, ARMED = 1, FIRED = 2, HELD = 3;

    private static final int RISE = 0, FALL = 1, WIDE = 2, THIN = 3, RUNT = 4, IN = 5, OUT = 6, EQUAL = 7;
    private static final int WITHIN = 8, NO_WORD = 9;

    private static final int SUMS = 3, STEPS = 4, CUT = 5, FILL = 6, TIMES = 7;

    private static final int MOST_BYTES = 20;
    private static final int FRAME_MARK = 85;
    private static final int MOST_IN_FRAME = 8;

    private final Tape tape;
    private final Reader reader;
    private final Scope scope;
    private final Sheet[] sheets;
    private final Row[] rows;
    private final Wire wire;
    private int firstBeyond;

    public TraceBench() {
        tape = new Tape();
        reader = new Reader(tape);
        scope = new Scope();
        sheets = new Sheet[SHEETS];
        for (int i = 0; i < SHEETS; i++) {
            sheets[i] = new Sheet();
        }
        rows = new Row[ROWS];
        for (int i = 0; i < ROWS; i++) {
            rows[i] = new Row();
        }
        wire = new Wire();
        firstBeyond = NONE;
    }

    public int feed(long v) {
        return tape.append(v) ? tape.length : FULL;
    }

    public int end(int n) {
        int had = tape.length;
        return tape.cutTo(n) ? had : BAD;
    }

    public int trigger() {
        tape.split();
        boolean well = reader.readPlan(scope.draft);
        tape.cutTo(0);
        if (!well) {
            return REFUSED - reader.flawPlace;
        }
        scope.takeDraft();
        return scope.plan.count;
    }

    public int fault() {
        return reader.flaw;
    }

    public int keep(int before, int after) {
        if (!isIn(before, 0, MOST_AROUND) || !isIn(after, 0, MOST_AROUND)) {
            return BAD;
        }
        if (scope.state == ARMED || scope.state == FIRED) {
            return STATE;
        }
        scope.before = before;
        scope.after = after;
        return 1;
    }

    public int arm() {
        if (scope.plan.count == 0) {
            return STATE;
        }
        if (scope.store.isFull()) {
            return FULL;
        }
        scope.beginAnew();
        return 1;
    }

    public int come(long v) {
        scope.take((int) (v >> 32));
        scope.take((int) v);
        return scope.store.count;
    }

    public int play(int row, int trace, int i, int n) {
        if (!isIn(row, 0, ROWS - 1) || !isTrace(trace) || !isIn(n, 0, MOST_PLAYED)) {
            return BAD;
        }
        Row from = rows[row];
        // A row of nothing is no row, even if none is to come of it.
        if (from.length == 0 || !isIn(i, 0, from.length - n)) {
            return BAD;
        }
        for (int j = 0; j < n; j++) {
            scope.take(sampleOn(trace, (int) from.valueAt(i + j)));
        }
        return scope.store.count;
    }

    public int sample(int s, int trace) {
        if (!isTrace(trace) || !scope.ring.has(s)) {
            return NO_NUMBER;
        }
        return numberOn(trace, scope.ring.get(s));
    }

    public int told(int what) {
        if (isIn(what, 1, 3) && scope.state != ARMED) {
            return NONE;
        }
        switch (what) {
            case 0: return scope.state;
            case 1: return scope.stage;
            case 2: return scope.happened;
            case 3: return scope.began;
            case 4: return scope.ring.count;
            case 5: return scope.store.count;
            case 6: return scope.before;
            case 7: return scope.after;
            case 8: return scope.plan.count;
            case 9: return scope.begunAgain;
            default: return BAD;
        }
    }

    public int segment(int k, int what) {
        if (!scope.store.has(k)) {
            return BAD;
        }
        Segment found = scope.store.get(k);
        switch (what) {
            case 0: return found.from;
            case 1: return found.length;
            case 2: return found.fired;
            default: return BAD;
        }
    }

    public int at(int k, int trace, int i) {
        if (!hasTrace(k, trace)) {
            return NO_NUMBER;
        }
        Segment found = scope.store.get(k);
        return found.has(i) ? found.numberAt(trace, i) : NO_NUMBER;
    }

    public int drop() {
        return scope.store.removeLatest() ? scope.store.count : NONE;
    }

    public int sheet(int k, int lane, int n) {
        if (!isIn(k, 0, SHEETS - 1) || !isIn(lane, 0, LANES - 1) || n > MOST_CELLS) {
            return BAD;
        }
        if (n < 0) {
            return REFUSED - FAULT_SIZE;
        }
        sheets[k].renew(lane, n);
        return 1;
    }

    public int lay(int k, int i, int v) {
        if (!isIn(k, 0, SHEETS - 1)) {
            return BAD;
        }
        Sheet to = sheets[k];
        if (to.isNothing()) {
            return REFUSED - FAULT_NULL;
        }
        if (!to.has(i)) {
            return REFUSED - FAULT_INDEX;
        }
        to.put(i, v);
        return 1;
    }

    public int mask(int k, int trace, int sheet, int lane, int from, int n) {
        if (!hasTrace(k, trace) || !isIn(sheet, 0, SHEETS - 1) || !isIn(lane, 0, LANES - 1) || n < 0) {
            return BAD;
        }
        Sheet limits = sheets[sheet];
        int fault = limits.faultAs(lane, n);
        if (fault != 0) {
            return REFUSED - fault;
        }
        Segment held = scope.store.get(k);
        int beyond = 0;
        firstBeyond = NONE;
        for (int i = 0; i < n; i++) {
            int place = from + i;
            if (held.has(place) && !limits.allows(i, held.numberAt(trace, place))) {
                if (beyond == 0) {
                    firstBeyond = place;
                }
                beyond++;
            }
        }
        return beyond;
    }

    public int first() {
        return firstBeyond;
    }

    public int row(int r, int k, int trace) {
        if (!isIn(r, 0, ROWS - 1) || !hasTrace(k, trace)) {
            return BAD;
        }
        rows[r].copyOf(scope.store.get(k), trace);
        return rows[r].length;
    }

    public int reckon(int r, int what, int x, int y, int n) {
        if (!isIn(r, 0, ROWS - 1) || !isIn(what, 0, TIMES) || !isFilled(x)) {
            return BAD;
        }
        boolean counts = what == SUMS || what == STEPS;
        if (counts ? !isIn(n, 1, 64) : !isIn(n, -1000, 1000)) {
            return BAD;
        }
        if (what >= SUMS) {
            rows[r].reckonOne(what, rows[x], n);
        } else if (isFilled(y)) {
            rows[r].reckonTwo(what, rows[x], rows[y]);
        } else {
            return BAD;
        }
        return rows[r].length;
    }

    public long place(int r, int i) {
        return isIn(r, 0, ROWS - 1) ? rows[r].valueAt(i) : 0;
    }

    public int about(int r, int what) {
        if (!isFilled(r)) {
            return BAD;
        }
        switch (what) {
            case 0: return rows[r].length;
            case 1: return rows[r].countGaps();
            case 2: return rows[r].placeOfLeast();
            case 3: return rows[r].placeOfGreatest();
            case 4: return rows[r].firstGap();
            default: return BAD;
        }
    }

    public long total(int r) {
        return isFilled(r) ? rows[r].sum(0, rows[r].length - 1) : 0;
    }

    public int turns(int r, long level, int what) {
        if (!isFilled(r) || !isIn(what, 0, 4)) {
            return BAD;
        }
        return rows[r].measureTurns(level, what);
    }

    public int eye(int r, int first, int n, int m, long low, int high, int c) {
        if (!isFilled(r) || first < 0 || !isIn(n, 1, 32) || !isIn(m, 0, n - 1)) {
            return BAD;
        }
        if (!isIn(high, 1, 1000) || !isIn(c, 0, 15)) {
            return BAD;
        }
        Row folded = rows[r];
        int found = 0;
        for (int i = first; i < folded.length; i++) {
            if ((i - first) % n == m && folded.isInBand(i, low, high, c)) {
                found++;
            }
        }
        return found;
    }

    public int bytes(int k, int trace, int n) {
        if (!hasTrace(k, trace) || !isIn(n, 2, 16)) {
            return BAD;
        }
        wire.readOne(scope.store.get(k), trace, n);
        return wire.count;
    }

    public int wires(int k, int clock, int data) {
        if (!hasTrace(k, clock) || !isTrace(data) || clock == data) {
            return BAD;
        }
        wire.readTwo(scope.store.get(k), clock, data);
        return wire.count;
    }

    public int got(int i) {
        return wire.has(i) ? wire.found[i] : BAD;
    }

    public int when(int i) {
        if (i == -1) {
            return wire.faultPlace;
        }
        return wire.has(i) ? wire.places[i] : BAD;
    }

    public int frame(int i) {
        return i < 0 ? BAD : wire.findFrame(i);
    }

    private static boolean isIn(int v, int low, int high) {
        return v >= low && v <= high;
    }

    private static boolean isTrace(int trace) {
        return isIn(trace, 0, TRACES - 1);
    }

    private boolean hasTrace(int k, int trace) {
        return scope.store.has(k) && isTrace(trace);
    }

    private boolean isFilled(int r) {
        return isIn(r, 0, ROWS - 1) && rows[r].length > 0;
    }

    /** A sample is held as one int of four bytes, trace 0 the highest, just as it comes. */
    private static int numberOn(int trace, int sample) {
        return (byte) (sample >> (24 - 8 * trace));
    }

    private static int sampleOn(int trace, int number) {
        return (number & 255) << (24 - 8 * trace);
    }

    /** The text of a trigger and the tokens it is split into, of which the end is the last. */
    private static final class Tape {
        private static final int END = 0, WORD = 1, NUMBER = 2, STAR = 3, SEMICOLON = 4, BROKEN = 5;

        private final byte[] cells = new byte[TAPE_BYTES];
        private int length;
        private final int[] kinds = new int[TAPE_BYTES + 1];
        private final int[] starts = new int[TAPE_BYTES + 1];
        private final int[] values = new int[TAPE_BYTES + 1];
        private int tokens;

        boolean append(long v) {
            if (length > TAPE_BYTES - 8) {
                return false;
            }
            for (int shift = 56; shift >= 0; shift -= 8) {
                cells[length] = (byte) (v >> shift);
                length++;
            }
            return true;
        }

        boolean cutTo(int n) {
            if (!isIn(n, 0, length)) {
                return false;
            }
            length = n;
            return true;
        }

        /** What is broken is a token too: nobody may take it, so what stands behind it is never seen. */
        void split() {
            tokens = 0;
            int i = 0;
            while (i < length) {
                int behind = cells[i] == ' ' ? i : addToken(i);
                i = Math.max(behind, i + 1);
            }
            put(END, length, 0);
        }

        private void put(int kind, int start, int value) {
            if (tokens < kinds.length) {
                kinds[tokens] = kind;
                starts[tokens] = start;
                values[tokens] = value;
                tokens++;
            }
        }

        private int addToken(int start) {
            int sign = cells[start];
            if (sign == '*' || sign == ';') {
                put(sign == '*' ? STAR : SEMICOLON, start, 0);
                return start + 1;
            }
            return isIn(sign, 'a', 'z') ? addWord(start) : addNumber(start);
        }

        private int addWord(int start) {
            int behind = start;
            while (behind < length && isIn(cells[behind], 'a', 'z')) {
                behind++;
            }
            int word = wordOf(start, behind);
            put(word == NO_WORD ? BROKEN : WORD, start, word);
            return behind;
        }

        private int addNumber(int start) {
            boolean minus = cells[start] == '-';
            int figures = minus ? start + 1 : start;
            int behind = figures;
            int number = 0;
            while (behind < length && isIn(cells[behind], '0', '9')) {
                number = 10 * number + cells[behind] - '0';
                behind++;
            }
            boolean well = isIn(behind - figures, 1, 3);
            put(well ? NUMBER : BROKEN, start, minus ? -number : number);
            return behind;
        }

        private int wordOf(int from, int behind) {
            if (spells(from, behind, "rise")) return RISE;
            if (spells(from, behind, "fall")) return FALL;
            if (spells(from, behind, "wide")) return WIDE;
            if (spells(from, behind, "thin")) return THIN;
            if (spells(from, behind, "runt")) return RUNT;
            if (spells(from, behind, "in")) return IN;
            if (spells(from, behind, "out")) return OUT;
            if (spells(from, behind, "equal")) return EQUAL;
            if (spells(from, behind, "within")) return WITHIN;
            return NO_WORD;
        }

        private boolean spells(int from, int behind, String word) {
            if (from < 0 || behind > length || behind - from != word.length()) {
                return false;
            }
            for (int i = 0; i < word.length(); i++) {
                if (cells[from + i] != word.charAt(i)) {
                    return false;
                }
            }
            return true;
        }
    }

    /** Goes through the tape's tokens and tells a plan from them, or the first fault met. */
    private static final class Reader {
        private static final int BELOW_ALL = -1000;

        private final Tape tape;
        private int now;
        private int taken;
        private int flaw;
        private int flawPlace;

        Reader(Tape tape) {
            this.tape = tape;
        }

        boolean readPlan(Plan plan) {
            flaw = 0;
            flawPlace = 0;
            now = 0;
            plan.count = 0;
            for (int k = 0; k < MOST_STAGES; k++) {
                if (!readStage(plan.stages[k])) {
                    return false;
                }
                plan.count = k + 1;
                if (sees(Tape.END)) {
                    return true;
                }
                if (!take(Tape.SEMICOLON)) {
                    return false;
                }
            }
            return refuse(FLAW_STAGES);
        }

        private boolean readStage(Stage stage) {
            stage.times = 1;
            if (sees(Tape.NUMBER)) {
                if (!takeNumber(1, 20, BELOW_ALL)) {
                    return false;
                }
                stage.times = taken;
                if (!take(Tape.STAR)) {
                    return false;
                }
            }
            if (seesWithin()) {
                return refuse(FLAW_ORDER);
            }
            if (!take(Tape.WORD)) {
                return false;
            }
            stage.event = taken;
            return readOperands(stage) && readWithin(stage);
        }

        private boolean readOperands(Stage stage) {
            if (!takeNumber(0, TRACES - 1, BELOW_ALL)) {
                return false;
            }
            stage.trace = taken;
            boolean well = stage.event == EQUAL
                ? takeNumber(0, TRACES - 1, BELOW_ALL)
                : takeNumber(-128, 127, BELOW_ALL);
            stage.other = taken;
            stage.level = taken;
            return well && readThird(stage);
        }

        private boolean readThird(Stage stage) {
            boolean well = true;
            switch (stage.event) {
                case WIDE:
                case THIN:
                    well = takeNumber(1, 200, BELOW_ALL);
                    stage.span = taken;
                    break;
                case RUNT:
                case IN:
                case OUT:
                    well = takeNumber(-128, 127, stage.level);
                    stage.top = taken;
                    break;
                default:
                    break;
            }
            return well;
        }

        private boolean readWithin(Stage stage) {
            stage.within = 0;
            if (!seesWithin()) {
                return true;
            }
            now++;
            boolean well = takeNumber(1, 200, BELOW_ALL);
            stage.within = taken;
            return well;
        }

        private boolean sees(int kind) {
            return now < tape.tokens && tape.kinds[now] == kind;
        }

        private boolean seesWithin() {
            return sees(Tape.WORD) && tape.values[now] == WITHIN;
        }

        private boolean take(int kind) {
            if (!sees(kind)) {
                return refuse(FLAW_ORDER);
            }
            taken = tape.values[now];
            now++;
            return true;
        }

        private boolean takeNumber(int low, int high, int above) {
            if (!sees(Tape.NUMBER)) {
                return refuse(FLAW_ORDER);
            }
            int v = tape.values[now];
            if (!isIn(v, low, high)) {
                return refuse(FLAW_BOUNDS);
            }
            if (v <= above) {
                return refuse(FLAW_LEVELS);
            }
            taken = v;
            now++;
            return true;
        }

        /** Whatever was wanted there, a broken token is a fault of its own. */
        private boolean refuse(int what) {
            flaw = what;
            if (now < tape.tokens) {
                flawPlace = tape.starts[now];
                if (tape.kinds[now] == Tape.BROKEN) {
                    flaw = FLAW_TOKEN;
                }
            }
            return false;
        }
    }

    private static final class Plan {
        private final Stage[] stages = new Stage[MOST_STAGES];
        private int count;

        Plan() {
            for (int i = 0; i < MOST_STAGES; i++) {
                stages[i] = new Stage();
            }
        }

        void forgetHighs() {
            for (int i = 0; i < count; i++) {
                stages[i].highSamples = 0;
            }
        }

        /** All stages are followed, for a high may begin before its stage does. */
        void followHighs(int ahead, int now) {
            for (int i = 0; i < count; i++) {
                stages[i].followHigh(ahead, now);
            }
        }
    }

    private static final class Stage {
        private int event;
        private int times;
        /** 0: without. */
        private int within;
        private int trace;
        private int other;
        private int level;
        private int top;
        private int span;
        /** 0: there is no high that began with a rise. */
        private int highSamples;
        private boolean reachedTop;

        boolean happens(int ahead, int now) {
            int p = numberOn(trace, ahead);
            int s = numberOn(trace, now);
            boolean endsHigh = highSamples > 0 && s < level;
            switch (event) {
                case RISE: return p < level && s >= level;
                case FALL: return p >= level && s < level;
                case WIDE: return endsHigh && highSamples >= span;
                case THIN: return endsHigh && highSamples < span;
                case RUNT: return endsHigh && !reachedTop;
                case IN: return isIn(s, level, top) && !isIn(p, level, top);
                case OUT: return isIn(p, level, top) && !isIn(s, level, top);
                case EQUAL: return s == numberOn(other, now) && p != numberOn(other, ahead);
                default: return false;
            }
        }

        void followHigh(int ahead, int now) {
            int p = numberOn(trace, ahead);
            int s = numberOn(trace, now);
            if (s < level) {
                highSamples = 0;
            } else if (p < level) {
                highSamples = 1;
                reachedTop = s >= top;
            } else if (highSamples > 0) {
                highSamples++;
                reachedTop = reachedTop || s >= top;
            }
        }
    }

    private static final class Ring {
        private final int[] samples = new int[RING_SAMPLES];
        private int count;

        void add(int sample) {
            samples[Math.floorMod(count, RING_SAMPLES)] = sample;
            count++;
        }

        int oldest() {
            return Math.max(0, count - RING_SAMPLES);
        }

        boolean has(int s) {
            return isIn(s, oldest(), count - 1);
        }

        /** Only behind has(s), but for the one ahead of all, which nobody looks at. */
        int get(int s) {
            return samples[Math.floorMod(s, RING_SAMPLES)];
        }
    }

    private static final class Segment {
        private final int[] samples = new int[MOST_PLACES];
        private int from;
        private int length;
        private int fired;

        void copyOf(Ring ring, int first, int last, int firedAt) {
            from = first;
            length = Math.min(last - first + 1, MOST_PLACES);
            fired = firedAt;
            for (int i = 0; i < length; i++) {
                samples[i] = ring.get(first + i);
            }
        }

        boolean has(int i) {
            return isIn(i, 0, length - 1);
        }

        int numberAt(int trace, int i) {
            return has(i) ? numberOn(trace, samples[i]) : 0;
        }

        boolean isOne(int trace, int i) {
            return numberAt(trace, i) >= 0;
        }
    }

    private static final class Store {
        private final Segment[] segments = new Segment[MOST_SEGMENTS];
        private int count;

        Store() {
            for (int i = 0; i < MOST_SEGMENTS; i++) {
                segments[i] = new Segment();
            }
        }

        boolean isFull() {
            return count >= MOST_SEGMENTS;
        }

        boolean has(int k) {
            return isIn(k, 0, count - 1);
        }

        /** Only behind has(k): segment 0 stands in for what is not there. */
        Segment get(int k) {
            return segments[has(k) ? k : 0];
        }

        void add(Ring ring, int first, int last, int firedAt) {
            if (!isFull()) {
                segments[count].copyOf(ring, first, last, firedAt);
                count++;
            }
        }

        boolean removeLatest() {
            if (count == 0) {
                return false;
            }
            count--;
            return true;
        }
    }

    private static final class Scope {
        private final Ring ring = new Ring();
        private final Store store = new Store();
        private Plan plan = new Plan();
        private Plan draft = new Plan();
        private int before = 8;
        private int after = 8;
        private int state = IDLE;
        private int armedFrom;
        private int stage;
        private int happened;
        private int began;
        private int begunAgain;
        private int fired;

        /** The two plans change places, so that a text read with a fault spoils only the draft. */
        void takeDraft() {
            Plan old = plan;
            plan = draft;
            draft = old;
            state = IDLE;
        }

        void beginAnew() {
            state = ARMED;
            armedFrom = ring.count;
            begunAgain = 0;
            plan.forgetHighs();
            beginFirstStage(ring.count);
        }

        private void beginFirstStage(int s) {
            stage = 0;
            happened = 0;
            began = s;
        }

        void take(int now) {
            int s = ring.count;
            int ahead = ring.get(s - 1);
            ring.add(now);
            if (state == ARMED && s > armedFrom) {
                follow(s, ahead, now);
            }
            if (state == FIRED && s - fired >= after) {
                keepSegment(s);
            }
        }

        private void follow(int s, int ahead, int now) {
            if (!isIn(stage, 0, plan.count - 1)) {
                return;
            }
            Stage current = plan.stages[stage];
            boolean happens = current.happens(ahead, now);
            plan.followHighs(ahead, now);
            if (current.within > 0 && s - began >= current.within) {
                begunAgain++;
                beginFirstStage(s);
            } else if (happens) {
                countEvent(current.times, s);
            }
        }

        private void countEvent(int times, int s) {
            happened++;
            if (happened < times) {
                return;
            }
            stage++;
            happened = 0;
            began = s;
            if (stage == plan.count) {
                state = FIRED;
                fired = s;
            }
        }

        private void keepSegment(int s) {
            int first = Math.max(fired - before, Math.max(armedFrom, ring.oldest()));
            store.add(ring, first, s, fired);
            if (store.isFull()) {
                state = HELD;
            } else {
                beginAnew();
            }
        }
    }

    /** Its cells are ints whatever its lane is, cut to the lane's bits when they are laid. */
    private static final class Sheet {
        private static final int NOTHING = -1, BYTES = 0, SHORTS = 1;

        private final int[] cells = new int[MOST_CELLS];
        private int lane = NOTHING;
        private int length;

        void renew(int newLane, int n) {
            lane = newLane;
            length = Math.min(n, MOST_CELLS);
            for (int i = 0; i < length; i++) {
                cells[i] = 0;
            }
        }

        boolean isNothing() {
            return lane == NOTHING;
        }

        boolean has(int i) {
            return isIn(i, 0, length - 1);
        }

        void put(int i, int v) {
            if (has(i)) {
                cells[i] = lane == BYTES ? (byte) v : lane == SHORTS ? (short) v : v;
            }
        }

        /** The fault of taking it as a lane for n pairs of cells; 0: none. */
        int faultAs(int wanted, int n) {
            if (isNothing()) {
                return FAULT_NULL;
            }
            if (lane != wanted) {
                return FAULT_CAST;
            }
            return n > length / 2 ? FAULT_INDEX : 0;
        }

        boolean allows(int pair, int v) {
            int i = 2 * pair;
            return !has(i) || !has(i + 1) || isIn(v, cells[i], cells[i + 1]);
        }
    }

    /** Nothing is in a row without places. A gap's value is held as 0. */
    private static final class Row {
        private final long[] values = new long[MOST_PLACES];
        private final boolean[] gaps = new boolean[MOST_PLACES];
        private int length;

        void copyOf(Segment from, int trace) {
            length = from.length;
            for (int i = 0; i < length; i++) {
                put(i, from.numberAt(trace, i));
            }
        }

        private void put(int i, long v) {
            values[i] = v;
            gaps[i] = false;
        }

        private void putGap(int i) {
            values[i] = 0;
            gaps[i] = true;
        }

        long valueAt(int i) {
            return isIn(i, 0, length - 1) ? values[i] : 0;
        }

        void reckonTwo(int what, Row x, Row y) {
            int n = Math.min(x.length, y.length);
            for (int i = 0; i < n; i++) {
                if (x.gaps[i] || y.gaps[i]) {
                    putGap(i);
                } else {
                    put(i, joined(what, x.values[i], y.values[i]));
                }
            }
            length = n;
        }

        private static long joined(int what, long a, long b) {
            switch (what) {
                case 0: return a + b;
                case 1: return a - b;
                default: return a * b;
            }
        }

        /** From the last place on, for this row may be x itself and looks at places ahead. */
        void reckonOne(int what, Row x, int n) {
            if (what == FILL) {
                fillFrom(x);
                return;
            }
            length = x.length;
            for (int i = length - 1; i >= 0; i--) {
                if (x.leavesGap(what, i, n)) {
                    putGap(i);
                } else {
                    put(i, x.reckoned(what, i, n));
                }
            }
        }

        private boolean leavesGap(int what, int i, int n) {
            switch (what) {
                case SUMS: return i - n + 1 < 0 || hasGap(i - n + 1, i);
                case STEPS: return i - n < 0 || gaps[i] || gaps[i - n];
                case CUT: return gaps[i] || values[i] < n;
                default: return gaps[i];
            }
        }

        private long reckoned(int what, int i, int n) {
            switch (what) {
                case SUMS: return sum(i - n + 1, i);
                case STEPS: return values[i] - valueAt(i - n);
                case CUT: return values[i];
                default: return n * values[i];
            }
        }

        private void fillFrom(Row x) {
            boolean known = false;
            long latest = 0;
            length = x.length;
            for (int i = 0; i < length; i++) {
                if (!x.gaps[i]) {
                    known = true;
                    latest = x.values[i];
                }
                if (known) {
                    put(i, latest);
                } else {
                    putGap(i);
                }
            }
        }

        private boolean hasGap(int from, int to) {
            for (int i = Math.max(from, 0); i <= to && i < length; i++) {
                if (gaps[i]) {
                    return true;
                }
            }
            return false;
        }

        long sum(int from, int to) {
            long all = 0;
            for (int i = Math.max(from, 0); i <= to && i < length; i++) {
                all += values[i];
            }
            return all;
        }

        int countGaps() {
            int n = 0;
            for (int i = 0; i < length; i++) {
                if (gaps[i]) {
                    n++;
                }
            }
            return n;
        }

        int placeOfLeast() {
            int best = NONE;
            for (int i = 0; i < length; i++) {
                if (!gaps[i] && (best < 0 || values[i] < values[best])) {
                    best = i;
                }
            }
            return best;
        }

        int placeOfGreatest() {
            int best = NONE;
            for (int i = 0; i < length; i++) {
                if (!gaps[i] && (best < 0 || values[i] > values[best])) {
                    best = i;
                }
            }
            return best;
        }

        int firstGap() {
            for (int i = 0; i < length; i++) {
                if (gaps[i]) {
                    return i;
                }
            }
            return NONE;
        }

        private boolean comesTo(long level, int i) {
            return i > 0 && !gaps[i - 1] && !gaps[i] && values[i - 1] < level && values[i] >= level;
        }

        int measureTurns(long level, int what) {
            int turns = 0, least = 0, greatest = 0, lengths = 0, highs = 0;
            int begin = NONE, highsSince = 0;
            for (int i = 0; i < length; i++) {
                if (gaps[i]) {
                    begin = NONE;
                } else if (comesTo(level, i)) {
                    if (begin != NONE) {
                        int turn = i - begin;
                        least = turns == 0 ? turn : Math.min(least, turn);
                        greatest = Math.max(greatest, turn);
                        lengths += turn;
                        highs += highsSince;
                        turns++;
                    }
                    begin = i;
                    highsSince = 0;
                }
                if (!gaps[i] && values[i] >= level) {
                    highsSince++;
                }
            }
            switch (what) {
                case 0: return turns;
                case 1: return least;
                case 2: return greatest;
                case 3: return lengths;
                default: return highs;
            }
        }

        boolean isInBand(int i, long low, int high, int c) {
            if (!isIn(i, 0, length - 1) || gaps[i] || high < 1) {
                return false;
            }
            return Math.floorDiv(values[i] - low, (long) high) == c;
        }
    }

    private static final class Wire {
        private final int[] found = new int[MOST_BYTES];
        private final int[] places = new int[MOST_BYTES];
        private int count;
        private int faultPlace = NONE;
        private boolean started;
        private int bits;
        private int value;
        private int begin;

        boolean has(int i) {
            return isIn(i, 0, count - 1);
        }

        private void clear() {
            count = 0;
            faultPlace = NONE;
            started = false;
            bits = 0;
        }

        private void add(int v, int place) {
            if (count < MOST_BYTES) {
                found[count] = v;
                places[count] = place;
                count++;
            }
        }

        void readOne(Segment from, int trace, int n) {
            clear();
            int half = n / 2;
            int toLast = half + 9 * n;
            int p = 0;
            while (p + toLast < from.length && count < MOST_BYTES) {
                if (!beginsByte(from, trace, p, half)) {
                    p++;
                    continue;
                }
                if (!from.isOne(trace, p + toLast)) {
                    faultPlace = p + toLast;
                    return;
                }
                add(byteBehind(from, trace, p + half, n), p);
                p += toLast + 1;
            }
        }

        private static boolean beginsByte(Segment from, int trace, int p, int half) {
            boolean falls = !from.isOne(trace, p) && (p == 0 || from.isOne(trace, p - 1));
            return falls && !from.isOne(trace, p + half);
        }

        private static int byteBehind(Segment from, int trace, int middle, int n) {
            int v = 0;
            for (int bit = 0; bit < 8; bit++) {
                if (from.isOne(trace, middle + n * (bit + 1))) {
                    v |= 1 << bit;
                }
            }
            return v;
        }

        void readTwo(Segment from, int clock, int data) {
            clear();
            for (int i = 1; i < from.length && count < MOST_BYTES && faultPlace == NONE; i++) {
                boolean one = from.isOne(data, i);
                if (!from.isOne(clock, i)) {
                    continue;
                }
                if (!from.isOne(clock, i - 1)) {
                    takeBit(one ? 1 : 0, i);
                } else if (one != from.isOne(data, i - 1)) {
                    startOrStop(one, i);
                }
            }
        }

        private void startOrStop(boolean rises, int place) {
            // One bit may be there at a stop: its own clock brought it.
            if (rises && (!started || bits >= 2)) {
                faultPlace = place;
            }
            started = !rises;
            bits = 0;
        }

        private void takeBit(int bit, int place) {
            if (!started) {
                return;
            }
            if (bits == 0) {
                begin = place;
                value = 0;
            }
            bits++;
            if (bits <= 8) {
                value = 2 * value + bit;
            } else {
                add(value + 256 * bit, begin);
                bits = 0;
            }
        }

        int findFrame(int from) {
            for (int i = Math.max(from, 0); i < count; i++) {
                if (beginsFrame(i)) {
                    return i;
                }
            }
            return NONE;
        }

        private int lowByte(int i) {
            return has(i) ? found[i] & 255 : 0;
        }

        private boolean beginsFrame(int i) {
            int n = lowByte(i + 1);
            if (lowByte(i) != FRAME_MARK || !isIn(n, 1, MOST_IN_FRAME) || !has(i + n + 2)) {
                return false;
            }
            int sum = n;
            for (int j = 0; j < n; j++) {
                sum += lowByte(i + 2 + j);
            }
            return lowByte(i + n + 2) == (sum & 255);
        }
    }
}
