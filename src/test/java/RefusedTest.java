import java.util.function.Supplier;
import java.util.function.ToLongFunction;

/**
 * 'what is refused changes nothing (but THE TAPE, as told)': a bench on which a call was refused answers
 * all that comes behind it just as its twin does, on which nothing was called. Calls that only look are
 * held to the same.
 */
public final class RefusedTest {
    private static final Check CHECK = new Check();
    private static final int LEAST = Integer.MIN_VALUE;
    private static final int MOST = Integer.MAX_VALUE;

    /** Each look begins with a new bench, for one object answers 512 calls. */
    private static final int LOOKS = 8;

    /** As many places has row 0, where there is one: idle, and the bytes 85 and 1. */
    private static final String ONE_WIRE = "1" + "00" + "1100110011001100" + "11" + "00" + "1100000000000000" + "11";
    private static final int PLACES = ONE_WIRE.length();

    private static String state;
    private static Supplier<TraceBench> maker;
    private static String[] untouched;

    public static void main(String[] args) {
        CHECK.says("what is refused changes nothing (but THE TAPE, as told).");
        in("new", 0, TraceBench::new, RefusedTest::refusedOnANewOne);
        in("armed", 1, RefusedTest::armed, RefusedTest::refusedWhenFilled);
        in("fired", 2, RefusedTest::fired, RefusedTest::refusedWhenFilled);
        in("not armed", 0, RefusedTest::notArmed, RefusedTest::refusedWithSegments);
        in("held", 3, RefusedTest::held, RefusedTest::refusedWhenHeld);
        in("full tape", 1, RefusedTest::fullTape, RefusedTest::refusedOnAFullTape);
        CHECK.says("-10 less the place of its FAULT: the one that there was stays.");
        faultsEmptyTheTapeAlone();
        CHECK.finish("RefusedTest");
    }

    private static void in(String name, int told, Supplier<TraceBench> made, Runnable calls) {
        state = name;
        maker = made;
        CHECK.due(name, made.get().told(0), told);
        untouched = new String[LOOKS];
        for (int i = 0; i < LOOKS; i++) {
            untouched[i] = look(maker.get(), i);
        }
        refusedAlways();
        calls.run();
    }

    private static void refused(String call, ToLongFunction<TraceBench> made, long due) {
        for (int i = 0; i < LOOKS; i++) {
            TraceBench x = maker.get();
            CHECK.due(state + ": " + call, made.applyAsLong(x), due);
            CHECK.same(state + ": look " + i + " behind " + call, look(x, i), untouched[i]);
        }
    }

    // ---- the states

    private static long pair(int a, int b, int c, int d, int e, int f, int g, int h) {
        return Check.sample(a, b, c, d) << 32 | Check.sample(e, f, g, h);
    }

    /** Segment 0 has two bytes on one wire; nothing is in row 2 and sheet 2. */
    private static TraceBench filled() {
        int[] first = new int[PLACES];
        int[] second = new int[PLACES];
        for (int i = 0; i < PLACES; i++) {
            first[i] = ONE_WIRE.charAt(i) == '1' ? i : -1 - i;
            second[i] = i * 7 % 11 - 5;
        }
        TraceBench x = Check.withSegment(first, second);
        x.sheet(0, 0, 6);
        x.lay(0, 0, -3);
        x.lay(0, 1, 4);
        x.lay(0, 3, 2);
        x.sheet(1, 1, 0);
        x.sheet(3, 2, 64);
        x.lay(3, 1, 300);
        x.row(0, 0, 0);
        x.reckon(1, 5, 0, 0, 0);
        x.row(3, 0, 1);
        CHECK.due("beyond", x.mask(0, 0, 0, 0, 0, 3), 2);
        CHECK.due("its first", x.first(), 1);
        CHECK.due("bytes", x.bytes(0, 0, 2), 2);
        return x;
    }

    /** Stage 0 was begun again, and its event has happened once since. */
    private static TraceBench armed() {
        TraceBench x = filled();
        Check.trigger(x, "2 * rise 0 3 within 9; fall 0 3");
        x.keep(3, 2);
        x.arm();
        x.come(pair(0, 0, 0, -1, 5, -1, 2, 0));
        x.come(pair(0, 3, -1, 1, 6, 0, 4, -1));
        x.come(pair(-2, 1, 1, 2, -9, -1, 5, 7));
        x.come(pair(-5, -1, 0, -1, 7, 1, 3, 4));
        for (int i = 0; i < 5; i++) {
            Check.come(x, 0, 0);
        }
        Check.come(x, 0, 5);
        CHECK.due("happened", x.told(2), 1);
        CHECK.due("begun again", x.told(9), 1);
        CHECK.due("segments", x.told(5), 2);
        Check.trigger(x, "rise 0 128");
        Check.lay(x, "in 2 -3 8 ");
        return x;
    }

    private static TraceBench fired() {
        TraceBench x = armed();
        x.arm();
        Check.come(x, 0, 5, 0, 5, 5, 0);
        return x;
    }

    private static TraceBench notArmed() {
        TraceBench x = armed();
        x.end(0);
        Check.trigger(x, "rise 1 2; fall 2 1");
        Check.lay(x, "out 2 -3 8; jump");
        return x;
    }

    private static TraceBench held() {
        TraceBench x = filled();
        Check.trigger(x, "rise 0 3");
        x.keep(3, 2);
        x.arm();
        for (int i = 0; i < 40; i++) {
            Check.come(x, i % 3, i % 2 == 0 ? 5 : -4);
        }
        Check.lay(x, "in 2 -3 8 ");
        return x;
    }

    private static TraceBench fullTape() {
        TraceBench x = armed();
        x.end(0);
        Check.lay(x, "in 2 -3 8" + " ".repeat(191));
        return x;
    }

    // ---- the looks

    private static String look(TraceBench x, int which) {
        StringBuilder all = new StringBuilder();
        switch (which) {
            case 0: lookAtTellings(x, all); break;
            case 1: lookAtRing(x, all); break;
            case 2: lookAtSegments(x, all); break;
            case 3: lookAtRows(x, all); break;
            case 4: lookAtSheets(x, all); break;
            case 5: lookOn(x, all); break;
            case 6: lookAtTape(x, all); break;
            default: add(all, x.end(0)); break;
        }
        return all.toString();
    }

    private static void add(StringBuilder all, long v) {
        all.append(v).append(' ');
    }

    private static void lookAtTellings(TraceBench x, StringBuilder all) {
        for (int i = 0; i < 10; i++) {
            add(all, x.told(i));
        }
        add(all, x.fault());
        add(all, x.first());
        for (int i = -1; i < 12; i++) {
            add(all, x.got(i));
            add(all, x.when(i));
            add(all, x.frame(i));
        }
    }

    private static void lookAtRing(TraceBench x, StringBuilder all) {
        int came = x.told(4);
        for (int s = came - 50; s <= came; s++) {
            for (int t = 0; t < 4; t++) {
                add(all, x.sample(s, t));
            }
        }
    }

    private static void lookAtSegments(TraceBench x, StringBuilder all) {
        for (int k = 0; k < 8; k++) {
            for (int what = 0; what < 3; what++) {
                add(all, x.segment(k, what));
            }
            for (int i = 0; i < 8; i++) {
                for (int t = 0; t < 4; t++) {
                    add(all, x.at(k, t, i));
                }
            }
        }
    }

    private static void lookAtRows(TraceBench x, StringBuilder all) {
        for (int r = 0; r < 4; r++) {
            for (int i = 0; i < 5; i++) {
                add(all, x.about(r, i));
            }
            for (int i = 0; i < PLACES; i++) {
                add(all, x.place(r, i));
            }
            add(all, x.total(r));
        }
    }

    /** Cells are seen by masks; the length by where a cell can be laid. */
    private static void lookAtSheets(TraceBench x, StringBuilder all) {
        for (int k = 0; k < 4; k++) {
            for (int lane = 0; lane < 3; lane++) {
                add(all, x.mask(0, 0, k, lane, 0, 0));
                for (int from = -2; from < 5; from++) {
                    add(all, x.mask(0, 0, k, lane, from, 3));
                }
            }
            for (int i = 0; i < 65; i++) {
                add(all, x.lay(k, i, 1));
            }
        }
    }

    /** What comes next: the trigger, its stage, its highs and what is told of it all work on. */
    private static void lookOn(TraceBench x, StringBuilder all) {
        for (int i = 0; i < 30; i++) {
            add(all, x.come(pair(i * 5 % 7, i % 3, i % 5 - 3, i * 3 % 4, i * 3 % 8 - 1, 2 - i % 4, i % 2 * 5, i % 3)));
            for (int what = 0; what < 4; what++) {
                add(all, x.told(what));
            }
            add(all, x.told(9));
        }
        add(all, x.arm());
        for (int i = 0; i < 30; i++) {
            add(all, x.come(pair(i * 5 % 7, i % 3, i % 5 - 3, i * 3 % 4, i * 3 % 8 - 1, 2 - i % 4, i % 2 * 5, i % 3)));
        }
        add(all, x.told(9));
    }

    /** What its text tells is the trigger then, and fires where it should. */
    private static void lookAtTape(TraceBench x, StringBuilder all) {
        add(all, x.trigger());
        add(all, x.fault());
        add(all, x.told(8));
        add(all, x.arm());
        for (int i = 0; i < 20; i++) {
            add(all, x.come(pair(i * 5 % 7, i % 3, i % 9 - 5, i * 3 % 4, i * 3 % 8 - 1, 2 - i % 4, i % 4 * 5, i % 3)));
        }
    }

    // ---- the calls

    /** Refused, or only looking, whatever the state is. */
    private static void refusedAlways() {
        refusedScopeCalls();
        refusedSheetCalls();
        refusedRowCalls();
        refusedWireCalls();
        looksAlone();
    }

    private static void refusedScopeCalls() {
        int[] ends = {LEAST, -1, 201, MOST};
        for (int n : ends) {
            refused("end(" + n + ")", x -> x.end(n), -1);
        }
        int[][] keeps = {{-1, 0}, {101, 0}, {0, -1}, {0, 101}, {LEAST, MOST}};
        for (int[] k : keeps) {
            refused("keep(" + k[0] + ", " + k[1] + ")", x -> x.keep(k[0], k[1]), -1);
        }
        int[][] plays = {{-1, 0, 0, 1}, {4, 0, 0, 1}, {0, -1, 0, 1}, {0, 4, 0, 1}, {0, 0, -1, 1}, {0, 0, PLACES, 1},
            {0, 0, PLACES - 1, 2}, {0, 0, 0, PLACES + 1}, {0, 0, 0, -1}, {0, 0, 0, 65}, {2, 0, 0, 1}, {2, 0, 0, 0},
            {0, 0, MOST, 64}, {0, 0, LEAST, 64}};
        for (int[] p : plays) {
            refused("play(" + p[0] + ", " + p[1] + ", " + p[2] + ", " + p[3] + ")",
                x -> x.play(p[0], p[1], p[2], p[3]), -1);
        }
        int[] tolds = {LEAST, -1, 10, MOST};
        for (int what : tolds) {
            refused("told(" + what + ")", x -> x.told(what), -1);
        }
        int[][] segments = {{-1, 0}, {8, 0}, {0, -1}, {0, 3}};
        for (int[] s : segments) {
            refused("segment(" + s[0] + ", " + s[1] + ")", x -> x.segment(s[0], s[1]), -1);
        }
    }

    private static void refusedSheetCalls() {
        int[][] sheets = {{-1, 0, 1}, {4, 0, 1}, {0, -1, 1}, {0, 3, 1}, {0, 0, 65}, {2, 1, MOST}, {4, 0, -1}};
        for (int[] s : sheets) {
            refused("sheet(" + s[0] + ", " + s[1] + ", " + s[2] + ")", x -> x.sheet(s[0], s[1], s[2]), -1);
        }
        for (int k = 0; k < 4; k++) {
            int sheet = k;
            refused("sheet(" + k + ", 1, -1)", x -> x.sheet(sheet, 1, -1), -14);
            refused("sheet(" + k + ", 2, least)", x -> x.sheet(sheet, 2, LEAST), -14);
        }
        refused("lay(-1, 0, 9)", x -> x.lay(-1, 0, 9), -1);
        refused("lay(4, 0, 9)", x -> x.lay(4, 0, 9), -1);
        refused("lay(2, 0, 9)", x -> x.lay(2, 0, 9), -11);
        int[][] masks = {{-1, 0, 0, 0, 0, 1}, {8, 0, 0, 0, 0, 1}, {0, -1, 0, 0, 0, 1}, {0, 4, 0, 0, 0, 1},
            {0, 0, -1, 0, 0, 1}, {0, 0, 4, 0, 0, 1}, {0, 0, 0, -1, 0, 1}, {0, 0, 0, 3, 0, 1}, {0, 0, 0, 0, 0, -1}};
        for (int[] m : masks) {
            refused("mask(" + java.util.Arrays.toString(m) + ")", x -> x.mask(m[0], m[1], m[2], m[3], m[4], m[5]), -1);
        }
    }

    private static void refusedRowCalls() {
        int[][] rows = {{-1, 0, 0}, {4, 0, 0}, {0, -1, 0}, {0, 8, 0}, {0, 0, -1}, {0, 0, 4}};
        for (int[] r : rows) {
            refused("row(" + java.util.Arrays.toString(r) + ")", x -> x.row(r[0], r[1], r[2]), -1);
        }
        int[][] reckons = {{-1, 0, 0, 1, 0}, {4, 0, 0, 1, 0}, {0, -1, 0, 1, 0}, {0, 8, 0, 1, 0}, {0, 0, -1, 1, 0},
            {0, 0, 4, 1, 0}, {0, 0, 2, 1, 0}, {0, 0, 0, -1, 0}, {0, 1, 0, 4, 0}, {0, 2, 0, 2, 0}, {0, 3, 0, 1, 0},
            {0, 3, 0, 1, 65}, {0, 4, 0, 1, 0}, {0, 4, 0, 1, 65}, {0, 0, 0, 1, -1001}, {0, 1, 0, 1, 1001},
            {0, 2, 0, 1, 1001}, {0, 5, 0, 1, -1001}, {0, 6, 0, 1, 1001}, {0, 7, 0, 1, 1001}, {0, 7, 2, 0, 1}};
        for (int[] r : reckons) {
            refused("reckon(" + java.util.Arrays.toString(r) + ")", x -> x.reckon(r[0], r[1], r[2], r[3], r[4]), -1);
        }
        int[][] abouts = {{-1, 0}, {4, 0}, {2, 0}, {0, -1}, {0, 5}};
        for (int[] a : abouts) {
            refused("about(" + a[0] + ", " + a[1] + ")", x -> x.about(a[0], a[1]), -1);
            refused("turns(" + a[0] + ", 0, " + a[1] + ")", x -> x.turns(a[0], 0, a[1]), -1);
        }
        int[][] eyes = {{-1, 0, 1, 0, 1, 0}, {4, 0, 1, 0, 1, 0}, {2, 0, 1, 0, 1, 0}, {0, -1, 1, 0, 1, 0},
            {0, 0, 0, 0, 1, 0}, {0, 0, 33, 0, 1, 0}, {0, 0, 1, 1, 1, 0}, {0, 0, 1, 0, 0, 0}, {0, 0, 1, 0, 1001, 0},
            {0, 0, 1, 0, 1, -1}, {0, 0, 1, 0, 1, 16}};
        for (int[] e : eyes) {
            refused("eye(" + java.util.Arrays.toString(e) + ")", x -> x.eye(e[0], e[1], e[2], e[3], 0, e[4], e[5]), -1);
        }
    }

    private static void refusedWireCalls() {
        int[][] bytes = {{-1, 0, 2}, {8, 0, 2}, {0, -1, 2}, {0, 4, 2}, {0, 0, 1}, {0, 0, 17}};
        for (int[] b : bytes) {
            refused("bytes(" + java.util.Arrays.toString(b) + ")", x -> x.bytes(b[0], b[1], b[2]), -1);
        }
        int[][] wires = {{-1, 0, 1}, {8, 0, 1}, {0, -1, 1}, {0, 4, 1}, {0, 0, -1}, {0, 0, 4}, {0, 0, 0}, {0, 3, 3}};
        for (int[] w : wires) {
            refused("wires(" + java.util.Arrays.toString(w) + ")", x -> x.wires(w[0], w[1], w[2]), -1);
        }
        refused("got(-1)", x -> x.got(-1), -1);
        refused("got(20)", x -> x.got(20), -1);
        refused("when(-2)", x -> x.when(-2), -1);
        refused("when(20)", x -> x.when(20), -1);
        refused("frame(-1)", x -> x.frame(-1), -1);
    }

    /** Not refused, or answered by a number that is none: they tell, and change nothing either. */
    private static void looksAlone() {
        refused("sample(-1, 0)", x -> x.sample(-1, 0), 1000);
        refused("sample(0, 4)", x -> x.sample(0, 4), 1000);
        refused("at(8, 0, 0)", x -> x.at(8, 0, 0), 1000);
        refused("at(0, 0, 201)", x -> x.at(0, 0, 201), 1000);
        refused("place(4, 0)", x -> x.place(4, 0), 0);
        refused("place(0, 201)", x -> x.place(0, 201), 0);
        refused("total(4)", x -> x.total(4), 0);
        refused("total(2)", x -> x.total(2), 0);
        for (int i = 0; i < LOOKS; i++) {
            // With the sheets' look an object would come to more than its 512 calls.
            if (i != 4) {
                TraceBench x = maker.get();
                lookAtAll(x);
                CHECK.same(state + ": look " + i + " behind looking", look(x, i), untouched[i]);
            }
        }
    }

    private static void lookAtAll(TraceBench x) {
        x.fault();
        x.first();
        for (int what = 0; what < 10; what++) {
            x.told(what);
            x.about(0, what);
            x.turns(0, 1, what);
            x.segment(0, what);
            x.eye(0, 0, 1, 0, 0, 1, what);
            x.got(what);
            x.when(what);
            x.frame(what);
            x.total(what);
            x.place(0, what);
            x.at(0, 0, what);
            x.sample(what, 0);
        }
    }

    private static void refusedOnANewOne() {
        refused("arm()", TraceBench::arm, -2);
        refused("drop()", TraceBench::drop, -4);
        refused("end(1)", x -> x.end(1), -1);
        refused("segment(0, 0)", x -> x.segment(0, 0), -1);
        refused("at(0, 0, 0)", x -> x.at(0, 0, 0), 1000);
        refused("sample(0, 0)", x -> x.sample(0, 0), 1000);
        refused("row(0, 0, 0)", x -> x.row(0, 0, 0), -1);
        refused("mask", x -> x.mask(0, 0, 0, 0, 0, 0), -1);
        refused("bytes", x -> x.bytes(0, 0, 2), -1);
        refused("wires", x -> x.wires(0, 0, 1), -1);
        refused("first()", TraceBench::first, -4);
        refused("got(0)", x -> x.got(0), -1);
        refused("when(0)", x -> x.when(0), -1);
        refused("when(-1)", x -> x.when(-1), -4);
        refused("frame(0)", x -> x.frame(0), -4);
        refused("keep with 101", x -> x.keep(8, 101), -1);
        for (int k = 0; k < 4; k++) {
            int which = k;
            refused("lay(" + k + ", 0, 0)", x -> x.lay(which, 0, 0), -11);
            refused("play(" + k + ", 0, 0, 0)", x -> x.play(which, 0, 0, 0), -1);
            refused("about(" + k + ", 0)", x -> x.about(which, 0), -1);
            refused("reckon(0, 0, " + k + ", 0, 0)", x -> x.reckon(0, 0, which, 0, 0), -1);
        }
    }

    private static void refusedWhenFilled() {
        refusedWithSegments();
        refused("keep(1, 1)", x -> x.keep(1, 1), -2);
        refused("keep(0, 0)", x -> x.keep(0, 0), -2);
        refused("keep(100, 100)", x -> x.keep(100, 100), -2);
    }

    private static void refusedWithSegments() {
        refused("lay(0, -1, 9)", x -> x.lay(0, -1, 9), -12);
        refused("lay(0, 6, 9)", x -> x.lay(0, 6, 9), -12);
        refused("lay(1, 0, 9)", x -> x.lay(1, 0, 9), -12);
        refused("lay(3, 64, 9)", x -> x.lay(3, 64, 9), -12);
        refused("mask with nothing", x -> x.mask(0, 0, 2, 0, 0, 1), -11);
        refused("mask of another lane", x -> x.mask(0, 0, 0, 1, 0, 1), -13);
        refused("mask of another lane", x -> x.mask(0, 0, 3, 0, 0, 1), -13);
        refused("mask beyond the cells", x -> x.mask(0, 0, 0, 0, 0, 4), -12);
        refused("mask beyond the cells", x -> x.mask(0, 0, 1, 1, 0, 1), -12);
        refused("mask beyond the cells", x -> x.mask(0, 0, 3, 2, 0, 33), -12);
        refused("end beyond", x -> x.end(17), -1);
    }

    private static void refusedWhenHeld() {
        refusedWithSegments();
        refused("arm()", TraceBench::arm, -3);
    }

    private static void refusedOnAFullTape() {
        refused("feed(0)", x -> x.feed(0), -3);
        refused("feed(-1)", x -> x.feed(-1), -3);
        refused("end(201)", x -> x.end(201), -1);
    }

    /** The tape is empty then and the fault is told; all else stays, also what is armed or begun. */
    private static void faultsEmptyTheTapeAlone() {
        String[] texts = {"", "jump", "rise 0", "9 * rise 3 9 within 9; rise 4 0", "in 0 1 2;".repeat(6), "in 0 2 2"};
        int[] faults = {2, 1, 2, 3, 4, 5};
        int[] places = {0, 0, 6, 28, 54, 7};
        faultsIn("armed, its tape empty", RefusedTest::armed, texts, faults, places);
        faultsIn("fired, its tape empty", RefusedTest::fired, texts, faults, places);
        faultsIn("not armed, its tape empty", RefusedTest::notArmed, texts, faults, places);
        faultsIn("held, its tape empty", RefusedTest::held, texts, faults, places);
        faultsIn("new", TraceBench::new, texts, faults, places);
    }

    private static void faultsIn(String name, Supplier<TraceBench> made, String[] texts, int[] faults, int[] places) {
        for (int j = 0; j < texts.length; j++) {
            String text = texts[j];
            for (int i = 0; i < LOOKS; i++) {
                TraceBench twin = made.get();
                twin.end(0);
                TraceBench x = made.get();
                x.end(0);
                CHECK.due(name + ": trigger of '" + text + "'", Check.trigger(x, text), -10 - places[j]);
                CHECK.due(name + ": fault", x.fault(), faults[j]);
                String wanted = look(twin, i);
                String seen = look(x, i);
                CHECK.same(name + ": look " + i + " behind '" + text + "'", i == 0 ? withoutFault(seen) : seen,
                    i == 0 ? withoutFault(wanted) : wanted);
            }
        }
    }

    /** The eleventh of what lookAtTellings tells is fault(). */
    private static String withoutFault(String tellings) {
        String[] all = tellings.split(" ");
        all[10] = "";
        return String.join(" ", all);
    }
}
