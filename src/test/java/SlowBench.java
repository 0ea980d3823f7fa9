import java.util.ArrayList;
import java.util.Arrays;
import java.util.List;
import java.util.regex.Matcher;
import java.util.regex.Pattern;

/**
 * The document told a second time, for the tests: every sample is kept for ever, and where the
 * trigger stands is found by going through all samples since arm() anew.
 */
final class SlowBench {
    private static final Pattern TOKEN = Pattern.compile(" *([a-z]+|-?[0-9]+|[*;])");
    private static final List<String> WORDS =
        List.of("rise", "fall", "wide", "thin", "runt", "in", "out", "equal", "within");

    record Stage(int times, String event, int[] numbers, int within) { }

    record Segment(int from, int fired, List<int[]> samples) { }

    private static final class Fault extends Exception {
        private static final long serialVersionUID = 1L;
        final int number;
        final int place;

        Fault(int number, int place) {
            this.number = number;
            this.place = place;
        }
    }

    private String tape = "";
    private int at;
    private String token;
    private int tokenPlace;
    private int fault;
    private List<Stage> trigger = new ArrayList<>();
    private final List<int[]> samples = new ArrayList<>();
    private final List<Segment> segments = new ArrayList<>();
    private int before = 8;
    private int after = 8;
    private int state;
    private int armedAt;
    private int stage;
    private int often;
    private int began;
    private int again;
    private int fired;
    private final Object[] sheets = new Object[4];
    private int firstBeyond = -4;
    private final List<List<Long>> rows = new ArrayList<>(Arrays.asList(null, null, null, null));
    private List<int[]> got = new ArrayList<>();
    private int gotFault = -4;

    int feed(long v) {
        if (tape.length() + 8 > 200) {
            return -3;
        }
        for (int i = 7; i >= 0; i--) {
            tape += (char) (v >>> 8 * i & 255);
        }
        return tape.length();
    }

    int end(int n) {
        if (n < 0 || n > tape.length()) {
            return -1;
        }
        int had = tape.length();
        tape = tape.substring(0, n);
        return had;
    }

    int trigger() {
        try {
            at = 0;
            trigger = stages();
            state = 0;
            fault = 0;
            return trigger.size();
        } catch (Fault f) {
            fault = f.number;
            return -10 - f.place;
        } finally {
            tape = "";
        }
    }

    private void next() throws Fault {
        Matcher m = TOKEN.matcher(tape).region(at, tape.length());
        if (m.lookingAt()) {
            token = m.group(1);
            tokenPlace = m.start(1);
            at = m.end();
            boolean word = Character.isLetter(token.charAt(0));
            if (word ? !WORDS.contains(token) : token.replace("-", "").length() > 3) {
                throw new Fault(1, tokenPlace);
            }
            return;
        }
        token = "";
        tokenPlace = at;
        while (tokenPlace < tape.length() && tape.charAt(tokenPlace) == ' ') {
            tokenPlace++;
        }
        if (tokenPlace < tape.length()) {
            throw new Fault(1, tokenPlace);
        }
    }

    private List<Stage> stages() throws Fault {
        List<Stage> all = new ArrayList<>();
        next();
        while (true) {
            if (all.size() == 6) {
                throw new Fault(4, tokenPlace);
            }
            all.add(oneStage());
            if (token.isEmpty()) {
                return all;
            }
            wanted(token.equals(";"));
            next();
        }
    }

    private void wanted(boolean well) throws Fault {
        if (!well) {
            throw new Fault(2, tokenPlace);
        }
    }

    private boolean isNumber() {
        return token.matches("-?[0-9]+");
    }

    private int number(int low, int high, int above) throws Fault {
        wanted(isNumber());
        int v = Integer.parseInt(token);
        if (v < low || v > high) {
            throw new Fault(3, tokenPlace);
        }
        if (v <= above) {
            throw new Fault(5, tokenPlace);
        }
        next();
        return v;
    }

    private Stage oneStage() throws Fault {
        int times = 1;
        if (isNumber()) {
            times = number(1, 20, -999);
            wanted(token.equals("*"));
            next();
        }
        String event = token;
        wanted(WORDS.contains(event) && !event.equals("within"));
        next();
        int[] n = new int[3];
        n[0] = number(0, 3, -999);
        switch (event) {
            case "rise", "fall" -> n[1] = number(-128, 127, -999);
            case "wide", "thin" -> {
                n[1] = number(-128, 127, -999);
                n[2] = number(1, 200, -999);
            }
            case "equal" -> n[1] = number(0, 3, -999);
            default -> {
                n[1] = number(-128, 127, -999);
                n[2] = number(-128, 127, n[1]);
            }
        }
        int within = 0;
        if (token.equals("within")) {
            next();
            within = number(1, 200, -999);
        }
        return new Stage(times, event, n, within);
    }

    int fault() {
        return fault;
    }

    int keep(int b, int a) {
        if (b < 0 || b > 100 || a < 0 || a > 100) {
            return -1;
        }
        if (state == 1 || state == 2) {
            return -2;
        }
        before = b;
        after = a;
        return 1;
    }

    int arm() {
        if (trigger.isEmpty()) {
            return -2;
        }
        if (segments.size() == 8) {
            return -3;
        }
        armedAt = samples.size();
        state = 1;
        find();
        return 1;
    }

    /** Where the trigger stands behind all samples since arm(). */
    private void find() {
        stage = 0;
        often = 0;
        began = armedAt;
        again = 0;
        for (int s = armedAt + 1; s < samples.size(); s++) {
            Stage now = trigger.get(stage);
            if (now.within > 0 && s == began + now.within) {
                stage = 0;
                often = 0;
                began = s;
                again++;
            } else if (happens(now, s) && ++often == now.times) {
                stage++;
                often = 0;
                began = s;
                if (stage == trigger.size()) {
                    state = 2;
                    fired = s;
                    return;
                }
            }
        }
    }

    private boolean happens(Stage e, int s) {
        int[] n = e.numbers;
        int a = samples.get(s - 1)[n[0]];
        int b = samples.get(s)[n[0]];
        boolean fall = a >= n[1] && b < n[1];
        boolean pIn = a >= n[1] && a <= n[2];
        boolean sIn = b >= n[1] && b <= n[2];
        int[] high = fall ? high(n, s) : null;
        return switch (e.event) {
            case "rise" -> a < n[1] && b >= n[1];
            case "fall" -> fall;
            case "wide" -> high != null && high[0] >= n[2];
            case "thin" -> high != null && high[0] < n[2];
            case "runt" -> high != null && high[1] < n[2];
            case "in" -> sIn && !pIn;
            case "out" -> pIn && !sIn;
            default -> b == samples.get(s)[n[1]] && a != samples.get(s - 1)[n[1]];
        };
    }

    /** Length and greatest of the high that ends ahead of s; null: it did not begin with a rise. */
    private int[] high(int[] n, int s) {
        int greatest = -128;
        int i = s - 1;
        while (i >= armedAt && samples.get(i)[n[0]] >= n[1]) {
            greatest = Math.max(greatest, samples.get(i)[n[0]]);
            i--;
        }
        return i < armedAt ? null : new int[] {s - 1 - i, greatest};
    }

    private void take(int... sample) {
        samples.add(sample);
        if (state == 1) {
            find();
        }
        int last = samples.size() - 1;
        if (state == 2 && last == fired + after) {
            int from = Math.max(armedAt, fired - before);
            segments.add(new Segment(from, fired, new ArrayList<>(samples.subList(from, last + 1))));
            state = 3;
            if (segments.size() < 8) {
                arm();
            }
        }
    }

    int come(long v) {
        for (int i = 0; i < 2; i++) {
            int w = (int) (v >> (i == 0 ? 32 : 0));
            take((byte) (w >> 24), (byte) (w >> 16), (byte) (w >> 8), (byte) w);
        }
        return segments.size();
    }

    private boolean noRow(int r) {
        return r < 0 || r > 3 || rows.get(r) == null;
    }

    int play(int row, int trace, int i, int n) {
        if (noRow(row) || trace < 0 || trace > 3 || n < 0 || n > 64 || i < 0) {
            return -1;
        }
        List<Long> from = rows.get(row);
        if ((long) i + n > from.size()) {
            return -1;
        }
        for (Long v : from.subList(i, i + n)) {
            int[] sample = new int[4];
            sample[trace] = v == null ? 0 : (byte) (long) v;
            take(sample);
        }
        return segments.size();
    }

    int sample(int s, int trace) {
        boolean there = s >= 0 && s < samples.size() && s >= samples.size() - 256 && trace >= 0 && trace < 4;
        return there ? samples.get(s)[trace] : 1000;
    }

    int told(int what) {
        if (what < 0 || what > 9) {
            return -1;
        }
        int[] all = {state, stage, often, began, samples.size(), segments.size(), before, after, trigger.size(), again};
        return what >= 1 && what <= 3 && state != 1 ? -4 : all[what];
    }

    private boolean noSegment(int k) {
        return k < 0 || k >= segments.size();
    }

    int segment(int k, int what) {
        if (noSegment(k) || what < 0 || what > 2) {
            return -1;
        }
        Segment g = segments.get(k);
        return what == 0 ? g.from : what == 1 ? g.samples.size() : g.fired;
    }

    int at(int k, int trace, int i) {
        if (noSegment(k) || trace < 0 || trace > 3 || i < 0 || i >= segments.get(k).samples.size()) {
            return 1000;
        }
        return segments.get(k).samples.get(i)[trace];
    }

    int drop() {
        if (segments.isEmpty()) {
            return -4;
        }
        segments.remove(segments.size() - 1);
        return segments.size();
    }

    int sheet(int k, int lane, int n) {
        if (k < 0 || k > 3 || lane < 0 || lane > 2 || n > 64) {
            return -1;
        }
        if (n < 0) {
            return -14;
        }
        sheets[k] = lane == 0 ? new byte[n] : lane == 1 ? (Object) new short[n] : new int[n];
        return 1;
    }

    int lay(int k, int i, int v) {
        if (k < 0 || k > 3) {
            return -1;
        }
        if (sheets[k] == null) {
            return -11;
        }
        if (i < 0 || i >= java.lang.reflect.Array.getLength(sheets[k])) {
            return -12;
        }
        if (sheets[k] instanceof byte[] b) {
            b[i] = (byte) v;
        } else if (sheets[k] instanceof short[] s) {
            s[i] = (short) v;
        } else if (sheets[k] instanceof int[] w) {
            w[i] = v;
        }
        return 1;
    }

    int mask(int k, int trace, int sheet, int lane, int from, int n) {
        if (noSegment(k) || trace < 0 || trace > 3 || sheet < 0 || sheet > 3 || lane < 0 || lane > 2 || n < 0) {
            return -1;
        }
        Object s = sheets[sheet];
        if (s == null) {
            return -11;
        }
        if (lane != (s instanceof byte[] ? 0 : s instanceof short[] ? 1 : 2)) {
            return -13;
        }
        int beyond = 0;
        int where = -4;
        for (int i = 0; i < n; i++) {
            if (2 * i + 1 >= java.lang.reflect.Array.getLength(s)) {
                return -12;
            }
            int v = at(k, trace, from + i);
            if (v != 1000 && (v < java.lang.reflect.Array.getInt(s, 2 * i)
                || v > java.lang.reflect.Array.getInt(s, 2 * i + 1))) {
                where = beyond++ == 0 ? from + i : where;
            }
        }
        firstBeyond = where;
        return beyond;
    }

    int first() {
        return firstBeyond;
    }

    int row(int r, int k, int trace) {
        if (r < 0 || r > 3 || noSegment(k) || trace < 0 || trace > 3) {
            return -1;
        }
        List<Long> made = new ArrayList<>();
        for (int[] sample : segments.get(k).samples) {
            made.add((long) sample[trace]);
        }
        rows.set(r, made);
        return made.size();
    }

    int reckon(int r, int what, int x, int y, int n) {
        if (r < 0 || r > 3 || what < 0 || what > 7 || noRow(x) || what < 3 && noRow(y)) {
            return -1;
        }
        if (what == 3 || what == 4 ? n < 1 || n > 64 : n < -1000 || n > 1000) {
            return -1;
        }
        List<Long> a = rows.get(x);
        List<Long> made = new ArrayList<>();
        int size = what < 3 ? Math.min(a.size(), rows.get(y).size()) : a.size();
        for (int i = 0; i < size; i++) {
            made.add(what < 3 ? two(what, a.get(i), rows.get(y).get(i)) : one(what, a, made, i, n));
        }
        rows.set(r, made);
        return size;
    }

    private static Long two(int what, Long a, Long b) {
        if (a == null || b == null) {
            return null;
        }
        return what == 0 ? a + b : what == 1 ? a - b : a * b;
    }

    private static Long one(int what, List<Long> a, List<Long> made, int i, int n) {
        Long v = a.get(i);
        switch (what) {
            case 3:
                if (i + 1 < n || a.subList(i + 1 - n, i + 1).contains(null)) {
                    return null;
                }
                return a.subList(i + 1 - n, i + 1).stream().mapToLong(Long::longValue).sum();
            case 4:
                return i < n ? null : two(1, v, a.get(i - n));
            case 5:
                return v == null || v < n ? null : v;
            case 6:
                return v != null || i == 0 ? v : made.get(i - 1);
            default:
                return v == null ? null : Long.valueOf(v * n);
        }
    }

    long place(int r, int i) {
        return noRow(r) || i < 0 || i >= rows.get(r).size() || rows.get(r).get(i) == null ? 0 : rows.get(r).get(i);
    }

    int about(int r, int what) {
        if (noRow(r) || what < 0 || what > 4) {
            return -1;
        }
        List<Long> a = rows.get(r);
        List<Long> there = a.stream().filter(v -> v != null).sorted().toList();
        switch (what) {
            case 0: return a.size();
            case 1: return a.size() - there.size();
            case 2: return there.isEmpty() ? -4 : a.indexOf(there.get(0));
            case 3: return there.isEmpty() ? -4 : a.indexOf(there.get(there.size() - 1));
            default: return a.contains(null) ? a.indexOf(null) : -4;
        }
    }

    long total(int r) {
        return noRow(r) ? 0 : rows.get(r).stream().filter(v -> v != null).mapToLong(Long::longValue).sum();
    }

    int turns(int r, long level, int what) {
        if (noRow(r) || what < 0 || what > 4) {
            return -1;
        }
        List<Long> a = rows.get(r);
        List<Integer> comes = new ArrayList<>();
        for (int i = 1; i < a.size(); i++) {
            if (a.get(i - 1) != null && a.get(i) != null && a.get(i - 1) < level && a.get(i) >= level) {
                comes.add(i);
            }
        }
        List<Integer> lengths = new ArrayList<>();
        int highs = 0;
        for (int j = 1; j < comes.size(); j++) {
            List<Long> turn = a.subList(comes.get(j - 1), comes.get(j));
            if (!turn.contains(null)) {
                lengths.add(turn.size());
                highs += (int) turn.stream().filter(v -> v >= level).count();
            }
        }
        switch (what) {
            case 0: return lengths.size();
            case 1: return lengths.stream().mapToInt(v -> v).min().orElse(0);
            case 2: return lengths.stream().mapToInt(v -> v).max().orElse(0);
            case 3: return lengths.stream().mapToInt(v -> v).sum();
            default: return highs;
        }
    }

    int eye(int r, int first, int n, int m, long low, int high, int c) {
        if (noRow(r) || first < 0 || n < 1 || n > 32 || m < 0 || m >= n || high < 1 || high > 1000 || c < 0 || c > 15) {
            return -1;
        }
        int count = 0;
        for (int i = 0; i < rows.get(r).size(); i++) {
            Long v = rows.get(r).get(i);
            if (i >= first && v != null && (i - first) % n == m
                && v - low >= (long) c * high && v - low < (c + 1L) * high) {
                count++;
            }
        }
        return count;
    }

    private String levels(int k, int trace) {
        StringBuilder text = new StringBuilder();
        for (int[] sample : segments.get(k).samples) {
            text.append(sample[trace] >= 0 ? '1' : '0');
        }
        return text.toString();
    }

    int bytes(int k, int trace, int n) {
        if (noSegment(k) || trace < 0 || trace > 3 || n < 2 || n > 16) {
            return -1;
        }
        got = new ArrayList<>();
        gotFault = -4;
        String w = levels(k, trace);
        int from = 0;
        while (from < w.length()) {
            int begin = from == 0 && w.startsWith("0") ? 0 : w.indexOf("10", Math.max(from - 1, 0)) + 1;
            int last = begin + n / 2 + 9 * n;
            if (begin == 0 && !(from == 0 && w.startsWith("0")) || last >= w.length()) {
                break;
            }
            if (w.charAt(begin + n / 2) == '1') {
                from = begin + 1;
                continue;
            }
            if (w.charAt(last) == '0') {
                gotFault = last;
                break;
            }
            int v = 0;
            for (int bit = 8; bit >= 1; bit--) {
                v = 2 * v + w.charAt(begin + n / 2 + bit * n) - '0';
            }
            got.add(new int[] {v, begin});
            from = last + 1;
        }
        return got.size();
    }

    int wires(int k, int clock, int data) {
        if (noSegment(k) || clock < 0 || clock > 3 || data < 0 || data > 3 || clock == data) {
            return -1;
        }
        got = new ArrayList<>();
        gotFault = -4;
        String c = levels(k, clock);
        String d = levels(k, data);
        String bits = null;
        List<Integer> places = new ArrayList<>();
        for (int i = 1; i < c.length(); i++) {
            String both = c.substring(i - 1, i + 1) + d.substring(i - 1, i + 1);
            if (both.equals("1110")) {
                bits = "";
                places.clear();
            } else if (both.equals("1101")) {
                if (bits == null || bits.length() > 1) {
                    gotFault = i;
                    break;
                }
                bits = null;
            } else if (both.startsWith("01") && bits != null) {
                bits += d.charAt(i);
                places.add(i);
                if (bits.length() == 9) {
                    int v = Integer.parseInt(bits.substring(0, 8), 2) + (bits.endsWith("1") ? 256 : 0);
                    got.add(new int[] {v, places.get(0)});
                    bits = "";
                    places.clear();
                }
            }
        }
        return got.size();
    }

    int got(int i) {
        return i < 0 || i >= got.size() ? -1 : got.get(i)[0];
    }

    int when(int i) {
        return i == -1 ? gotFault : i < 0 || i >= got.size() ? -1 : got.get(i)[1];
    }

    int frame(int i) {
        if (i < 0) {
            return -1;
        }
        for (int j = i; j < got.size(); j++) {
            int n = j + 1 < got.size() ? got.get(j + 1)[0] & 255 : 0;
            if ((got.get(j)[0] & 255) == 85 && n >= 1 && n <= 8 && j + n + 2 < got.size()) {
                int sum = 0;
                for (int[] b : got.subList(j + 1, j + n + 2)) {
                    sum += b[0] & 255;
                }
                if (sum % 256 == (got.get(j + n + 2)[0] & 255)) {
                    return j;
                }
            }
        }
        return -4;
    }
}
