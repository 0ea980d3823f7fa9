import java.util.Random;

/** Long runs of calls made by a seeded source, each call's answer held against SlowBench's. */
public final class RandomTest {
    private static final int RUNS = 20000;

    /** Behind so many calls what an object answers is free. */
    private static final int CALLS = 512;
    private static final int[] ODD = {-1, 4, 8, 64, 65, 100, 101, 1000, 1001, Integer.MAX_VALUE, Integer.MIN_VALUE};
    private static final String[] BROKEN = {"jump", "-", "1234", ";", "*", "within", "rise", "128", "-129", "201", "0",
        "21", "4", "\t", "A", "within 3", "2 *", "in 0 3 3"};

    private final Random random;
    private final Check check = new Check();
    private TraceBench x;
    private SlowBench y;
    private int run;
    private int calls;
    private int traceNow;
    private int levelNow;

    private RandomTest(long seed) {
        random = new Random(seed);
    }

    public static void main(String[] args) {
        RandomTest test = new RandomTest(20261116);
        for (test.run = 0; test.run < RUNS; test.run++) {
            test.oneRun();
        }
        test.check.finish("RandomTest");
    }

    private int below(int n) {
        return random.nextInt(n);
    }

    private int mostly(int low, int high) {
        return below(20) == 0 ? ODD[below(ODD.length)] : low + below(high - low + 1);
    }

    private void due(String call, long got, long want) {
        calls++;
        if (calls <= CALLS) {
            check.due("run " + run + ": " + call, got, want);
        }
    }

    private void oneRun() {
        x = new TraceBench();
        y = new SlowBench();
        traceNow = below(4);
        levelNow = below(9) - 4;
        calls = 0;
        newTrigger();
        while (calls < CALLS) {
            int kind = below(100);
            if (kind < 3) {
                newTrigger();
            } else if (kind < 8) {
                arms();
            } else if (kind < 55) {
                comes();
            } else if (kind < 65) {
                looks();
            } else if (kind < 75) {
                sheets();
            } else if (kind < 92) {
                rows();
            } else {
                wires();
            }
        }
    }

    private String number(int low, int high) {
        return String.valueOf(below(40) == 0 ? below(600) - 300 : low + below(high - low + 1));
    }

    private String trace() {
        return below(3) == 0 ? number(0, 3) : String.valueOf(traceNow);
    }

    private String stageText() {
        String text = below(4) == 0 ? number(1, 4) + (below(2) == 0 ? " * " : "*") : "";
        int low = levelNow + below(3) - 1;
        switch (below(8)) {
            case 0: text += "rise " + trace() + " " + low; break;
            case 1: text += "fall " + trace() + " " + low; break;
            case 2: text += "wide " + trace() + " " + low + " " + number(1, 6); break;
            case 3: text += "thin " + trace() + " " + low + " " + number(1, 6); break;
            case 4: text += "runt " + trace() + " " + low + " " + number(low, low + 4); break;
            case 5: text += "in " + trace() + " " + low + " " + number(low, low + 4); break;
            case 6: text += "out " + trace() + " " + low + " " + number(low, low + 4); break;
            default: text += "equal " + trace() + " " + trace(); break;
        }
        return text + (below(3) == 0 ? " within " + number(1, 12) : "");
    }

    private void newTrigger() {
        StringBuilder text = new StringBuilder(stageText());
        int more = below(3) == 0 ? below(8) : below(2);
        for (int i = 0; i < more; i++) {
            text.append(below(2) == 0 ? "; " : ";").append(stageText());
        }
        if (below(4) == 0) {
            int at = below(text.length() + 1);
            text.replace(at, Math.min(text.length(), at + below(4)), " ".repeat(below(2)) + BROKEN[below(BROKEN.length)]);
        }
        if (below(20) == 0) {
            text.setLength(below(text.length() + 1));
        }
        for (int i = 0; i < text.length(); i += 8) {
            long v = 0;
            for (int j = i; j < i + 8; j++) {
                v = v << 8 | (j < text.length() ? text.charAt(j) : ' ');
            }
            due("feed", x.feed(v), y.feed(v));
        }
        int n = below(30) == 0 ? below(210) - 4 : text.length();
        due("end(" + n + ")", x.end(n), y.end(n));
        due("trigger of '" + text + "'", x.trigger(), y.trigger());
        due("fault of '" + text + "'", x.fault(), y.fault());
    }

    private void arms() {
        int b = below(2) == 0 ? mostly(0, 9) : mostly(0, 100);
        int a = below(2) == 0 ? mostly(0, 9) : mostly(0, 100);
        due("keep(" + b + ", " + a + ")", x.keep(b, a), y.keep(b, a));
        due("arm()", x.arm(), y.arm());
        if (below(3) == 0) {
            due("drop()", x.drop(), y.drop());
        }
    }

    private long someSample() {
        long v = 0;
        for (int i = 0; i < 4; i++) {
            int number = below(10) == 0 ? below(256) : levelNow + below(7) - 3;
            v = v << 8 | number & 255;
        }
        return v;
    }

    private void comes() {
        if (below(8) == 0) {
            plays();
            return;
        }
        long first = someSample();
        long second = below(3) == 0 ? first : someSample();
        long v = first << 32 | second;
        due("come(" + v + ")", x.come(v), y.come(v));
    }

    /** A third of them begins or ends about the end of the row. */
    private void plays() {
        int r = mostly(0, 3);
        int trace = mostly(0, 3);
        int i = mostly(0, 5);
        int n = mostly(0, 20);
        if (below(3) == 0) {
            n = below(3);
            i = Math.max(0, y.about(r, 0)) - n + below(3) - 1;
        }
        due("play(" + r + ", " + trace + ", " + i + ", " + n + ")", x.play(r, trace, i, n), y.play(r, trace, i, n));
    }

    private void looks() {
        for (int i = 0; i < 5; i++) {
            int what = below(12) - 1;
            due("told(" + what + ")", x.told(what), y.told(what));
        }
        int s = mostly(0, Math.max(1, y.told(4)));
        int t = mostly(0, 3);
        int k = mostly(0, Math.max(1, y.told(5)));
        due("sample", x.sample(s, t), y.sample(s, t));
        int which = mostly(0, 2);
        due("segment", x.segment(k, which), y.segment(k, which));
        int i = mostly(0, 20);
        due("at", x.at(k, t, i), y.at(k, t, i));
    }

    private int someSegment() {
        return mostly(0, Math.max(0, y.told(5) - 1));
    }

    private void sheets() {
        int k = mostly(0, 3);
        int lane = mostly(0, 2);
        if (below(3) == 0) {
            int n = mostly(0, 12);
            due("sheet", x.sheet(k, lane, n), y.sheet(k, lane, n));
        }
        for (int i = 0; i < 6; i++) {
            int cell = mostly(0, 10);
            int v = below(4) == 0 ? random.nextInt() : below(12) - 6;
            due("lay", x.lay(k, cell, v), y.lay(k, cell, v));
        }
        int g = someSegment();
        int t = mostly(0, 3);
        int from = mostly(-3, 20);
        int n = mostly(0, 5);
        due("mask", x.mask(g, t, k, lane, from, n), y.mask(g, t, k, lane, from, n));
        due("first", x.first(), y.first());
    }

    private void rows() {
        int r = mostly(0, 3);
        if (below(3) == 0) {
            int k = someSegment();
            int t = mostly(0, 3);
            due("row", x.row(r, k, t), y.row(r, k, t));
        }
        int what = mostly(0, 7);
        int a = mostly(0, 3);
        int b = mostly(0, 3);
        int n = below(2) == 0 ? mostly(1, 4) : mostly(-8, 8);
        due("reckon " + what, x.reckon(r, what, a, b, n), y.reckon(r, what, a, b, n));
        for (int i = 0; i < 4; i++) {
            int at = mostly(0, below(8) == 0 ? 210 : 20);
            due("place " + what, x.place(r, at), y.place(r, at));
        }
        long level = below(10) == 0 ? random.nextLong() : below(11) - 5;
        for (int i = 0; i < 3; i++) {
            int which = mostly(0, 4);
            due("about", x.about(r, which), y.about(r, which));
            due("turns", x.turns(r, level, which), y.turns(r, level, which));
        }
        due("total", x.total(r), y.total(r));
        int[] e = {mostly(0, 9), mostly(1, 5), mostly(0, 4), mostly(1, 9), mostly(0, 5)};
        due("eye", x.eye(r, e[0], e[1], e[2], level, e[3], e[4]), y.eye(r, e[0], e[1], e[2], level, e[3], e[4]));
    }

    private void wires() {
        int k = someSegment();
        int t = mostly(0, 3);
        int n = below(2) == 0 ? 2 : mostly(1, 6);
        due("bytes", x.bytes(k, t, n), y.bytes(k, t, n));
        allGot();
        int clock = mostly(0, 3);
        due("wires", x.wires(k, clock, t), y.wires(k, clock, t));
        allGot();
    }

    private void allGot() {
        due("when(-1)", x.when(-1), y.when(-1));
        int i = mostly(-2, 4);
        due("got", x.got(i), y.got(i));
        due("when", x.when(i), y.when(i));
        due("frame", x.frame(i), y.frame(i));
    }
}
