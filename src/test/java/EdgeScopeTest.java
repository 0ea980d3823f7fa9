/** The ring, segments, and promises 6 to 14: each sentence that names an edge, at it and beyond. */
public final class EdgeScopeTest {
    private static final Check CHECK = new Check();
    private static final int LEAST = Integer.MIN_VALUE;
    private static final int MOST = Integer.MAX_VALUE;
    private static final int[] NO_TRACES = {-1, 4, LEAST, MOST};

    public static void main(String[] args) {
        newObject();
        numbersOfASample();
        ringSizes();
        ringByOnes();
        ringFarOn();
        afterEdges();
        beforeEdges();
        notAheadOfArm();
        overTheRingsEnd();
        armedAnew();
        heldAtEight();
        keeps();
        keepsInStates();
        arms();
        armsAnew();
        comes();
        playsCounts();
        playsPlaces();
        playsNumbers();
        playsAreFollowed();
        tells();
        tellsBegunAgain();
        segments();
        numbersAt();
        drops();
        dropsHeld();
        CHECK.finish("EdgeScopeTest");
    }

    /** Number of sample i on a trace: no two near one another are the same. */
    private static int number(int i, int trace) {
        return (byte) (37 * i + 64 * trace + 5);
    }

    private static long sample(int i) {
        return Check.sample(number(i, 0), number(i, 1), number(i, 2), number(i, 3));
    }

    private static void fill(TraceBench x, int samples) {
        for (int i = x.told(4); i + 1 < samples; i += 2) {
            x.come(sample(i) << 32 | sample(i + 1));
        }
    }

    private static TraceBench held() {
        TraceBench x = Check.armed("rise 0 5", 0, 0);
        for (int i = 0; i < 8; i++) {
            Check.come(x, 0, 5);
        }
        return x;
    }

    private static void newObject() {
        CHECK.says("No SAMPLES, no trigger, no SEGMENTS; SHEETS, ROWS of nothing; BEFORE 8, AFTER 8.");
        TraceBench x = new TraceBench();
        tell(x, 0, -4, -4, -4, 0, 0, 8, 8, 0, 0);
        CHECK.due("no SAMPLES", x.sample(0, 0), 1000);
        CHECK.due("no trigger", x.arm(), -2);
        CHECK.due("no SEGMENTS", x.segment(0, 0), -1);
        CHECK.due("no SEGMENTS", x.drop(), -4);
        for (int i = 0; i < 4; i++) {
            CHECK.due("a SHEET of nothing", x.lay(i, 0, 0), -11);
            CHECK.due("a ROW of nothing", x.about(i, 0), -1);
        }
        Check.trigger(x, "rise 0 5");
        x.arm();
        for (int i = 0; i < 10; i++) {
            Check.come(x, i / 2, i == 9 ? 5 : 4);
        }
        for (int i = 0; i < 4; i++) {
            CHECK.due("less than 8 behind it", Check.come(x, 6, 7), i < 3 ? 0 : 1);
        }
        CHECK.due("8 ahead of it", x.segment(0, 0), 11);
        CHECK.due("8, it, and 8", x.segment(0, 1), 17);
        CHECK.due("fired", x.segment(0, 2), 19);
        CHECK.due("another new one has none of it", new TraceBench().told(4), 0);
    }

    private static void numbersOfASample() {
        CHECK.says("A SAMPLE is a number of each (-128 to 127)");
        int[] edges = {-128, -127, -1, 0, 1, 126, 127};
        for (int v : edges) {
            for (int t = 0; t < 4; t++) {
                TraceBench x = new TraceBench();
                Check.comeOn(x, t, v, -1 - v);
                for (int u = 0; u < 4; u++) {
                    CHECK.due("the first, " + v + " on " + t + ", on " + u, x.sample(0, u), t == u ? v : 0);
                    CHECK.due("the second, on " + u, x.sample(1, u), t == u ? -1 - v : 0);
                }
            }
        }
        CHECK.says("Two SAMPLES come, each of four bytes (trace 0 the highest one), the first one the higher four");
        TraceBench x = new TraceBench();
        x.come(0x0102030480FF7F00L);
        int[] wanted = {1, 2, 3, 4, -128, -1, 127, 0};
        for (int i = 0; i < 8; i++) {
            CHECK.due("number " + i, x.sample(i / 4, i % 4), wanted[i]);
        }
    }

    /** All four ends of what the ring has, and of what is not there. */
    private static void ring(TraceBench x, int came) {
        int oldest = Math.max(0, came - 256);
        CHECK.due("SAMPLES that came", x.told(4), came);
        for (int t = 0; t < 4; t++) {
            CHECK.due("ahead of the oldest of " + came, x.sample(oldest - 1, t), 1000);
            CHECK.due("behind the latest of " + came, x.sample(came, t), 1000);
            if (came > 0) {
                CHECK.due("the oldest of " + came, x.sample(oldest, t), number(oldest, t));
                CHECK.due("the latest of " + came, x.sample(came - 1, t), number(came - 1, t));
            }
        }
    }

    private static void ringSizes() {
        CHECK.says("SAMPLES are numbered from 0 on as they come; THE RING has the latest 256.");
        int[] counts = {0, 2, 4, 128, 254, 256, 258, 260, 510, 512, 514, 768, 770};
        for (int count : counts) {
            TraceBench y = new TraceBench();
            fill(y, count);
            ring(y, count);
        }
        TraceBench full = new TraceBench();
        fill(full, 300);
        for (int s = 44; s < 300; s++) {
            CHECK.due("sample " + s + " of 300", full.sample(s, s & 3), number(s, s & 3));
        }
        CHECK.says("1000: it is not there, no such trace.");
        TraceBench two = new TraceBench();
        CHECK.due("of none", two.sample(0, 0), 1000);
        fill(two, 2);
        int[] none = {-1, 2, 256, -256, -254, LEAST, MOST};
        for (int s : none) {
            CHECK.due("sample " + s + " of 2", two.sample(s, 0), 1000);
        }
        for (int t : NO_TRACES) {
            CHECK.due("trace " + t, two.sample(0, t), 1000);
        }
        CHECK.due("trace 3", two.sample(1, 3), number(1, 3));
    }

    /** By play() an odd number of samples can come, so that the ring turns within a call. */
    private static void ringByOnes() {
        CHECK.says("THE RING has the latest 256.");
        TraceBench x = Check.withSegment(7, 8, 9);
        x.row(0, 0, 0);
        fill(x, 254);
        int last = number(253, 0);
        for (int came = 254; came < 260; came++) {
            CHECK.due("came", x.told(4), came);
            CHECK.due("ahead of the oldest of " + came, x.sample(Math.max(-1, came - 257), 0), 1000);
            int oldest = Math.max(0, came - 256);
            CHECK.due("the oldest of " + came, x.sample(oldest, 0), oldest == 3 ? 9 : 7 + oldest);
            CHECK.due("the latest of " + came, x.sample(came - 1, 0), last);
            CHECK.due("behind the latest of " + came, x.sample(came, 0), 1000);
            x.play(0, 0, came % 3, 1);
            last = 7 + came % 3;
        }
        int[] numbers = new int[64];
        for (int i = 0; i < 64; i++) {
            numbers[i] = i + 1;
        }
        TraceBench y = Check.withSegment(numbers);
        y.row(0, 0, 0);
        fill(y, 250);
        y.play(0, 1, 0, 64);
        CHECK.due("64 over the ring's end", y.told(4), 314);
        CHECK.due("it went", y.sample(57, 1), 1000);
        CHECK.due("ahead of them", y.sample(249, 1), number(249, 1));
        CHECK.due("the first of them", y.sample(250, 1), 1);
        CHECK.due("the ring's last", y.sample(255, 1), 6);
        CHECK.due("the ring's first", y.sample(256, 1), 7);
        CHECK.due("the last of them", y.sample(313, 1), 64);
    }

    private static void ringFarOn() {
        CHECK.says("SAMPLES are numbered from 0 on as they come");
        int[] numbers = new int[64];
        for (int i = 0; i < 64; i++) {
            numbers[i] = i - 30;
        }
        TraceBench x = Check.withSegment(numbers);
        Check.trigger(x, "rise 3 1");
        x.row(0, 0, 0);
        for (int i = 0; i < 400; i++) {
            x.play(0, 0, 0, 64);
        }
        int came = 64 + 400 * 64;
        CHECK.due("came", x.told(4), came);
        CHECK.due("ahead of the oldest", x.sample(came - 257, 0), 1000);
        CHECK.due("the oldest", x.sample(came - 256, 0), -30);
        CHECK.due("the latest", x.sample(came - 1, 0), 33);
        CHECK.due("behind the latest", x.sample(came, 0), 1000);
        x.keep(3, 0);
        x.arm();
        CHECK.due("it is still followed", x.come(0x0100000002000001L), 2);
        CHECK.due("first", x.segment(1, 0), came);
        CHECK.due("fired", x.segment(1, 2), came + 1);
    }

    private static void afterEdges() {
        CHECK.says("Then, when as many SAMPLES more came as told (AFTER), a SEGMENT is kept");
        int[] afters = {0, 1, 2, 99, 100};
        for (int after : afters) {
            TraceBench x = Check.armed("rise 0 5", 0, after);
            int segments = Check.come(x, 0, 5);
            int came = 0;
            while (came + 2 <= after) {
                CHECK.due("behind " + came + " of " + after, segments, 0);
                CHECK.due("fired", x.told(0), 2);
                segments = Check.come(x, 7, 8);
                came += 2;
            }
            if (came < after) {
                CHECK.due("behind " + came + " of " + after, segments, 0);
                segments = Check.come(x, 7, 8);
            }
            CHECK.due("kept with " + after, segments, 1);
            CHECK.due("from", x.segment(0, 0), 1);
            CHECK.due("how many", x.segment(0, 1), after + 1);
            CHECK.due("fired at", x.segment(0, 2), 1);
            CHECK.due("armed anew behind it", x.told(3), after + 2);
            CHECK.due("the last place", x.at(0, 0, after), after == 0 ? 5 : after % 2 == 1 ? 7 : 8);
        }
    }

    private static void beforeEdges() {
        CHECK.says("up to BEFORE SAMPLES ahead of the one at which it fired");
        int[] befores = {0, 1, 2, 99, 100};
        for (int before : befores) {
            for (int fires = Math.max(1, before - 1); fires <= before + 2; fires++) {
                TraceBench x = Check.armed("rise 3 1", before, 1);
                for (int i = 0; i <= fires + 1; i += 2) {
                    x.come(Check.sample(i, 0, 0, i == fires ? 1 : 0) << 32
                        | Check.sample(i + 1, 0, 0, i + 1 == fires ? 1 : 0));
                }
                int first = Math.max(0, fires - before);
                CHECK.due("first with " + before + ", fired at " + fires, x.segment(0, 0), first);
                CHECK.due("how many", x.segment(0, 1), fires - first + 2);
                CHECK.due("fired", x.segment(0, 2), fires);
                CHECK.due("the first number", x.at(0, 0, 0), (byte) first);
                CHECK.due("the one at which it fired", x.at(0, 3, fires - first), 1);
                CHECK.due("the last number", x.at(0, 0, fires - first + 1), (byte) (fires + 1));
            }
        }
    }

    private static void notAheadOfArm() {
        CHECK.says("(not ahead of the first behind arm(), nor of THE RING)");
        TraceBench x = new TraceBench();
        Check.trigger(x, "rise 0 5");
        x.keep(100, 0);
        Check.come(x, 1, 2, 3, 4);
        x.arm();
        Check.come(x, 4, 6);
        CHECK.due("first", x.segment(0, 0), 4);
        CHECK.due("how many", x.segment(0, 1), 2);
        Check.come(x, 0, 0, 0, 0);
        x.arm();
        Check.come(x, 3, 7);
        CHECK.due("first behind the second arm()", x.segment(1, 0), 10);
        Check.come(x, 2, 8);
        CHECK.due("first behind arming itself", x.segment(2, 0), 12);
        TraceBench y = new TraceBench();
        Check.trigger(y, "rise 0 5");
        y.keep(100, 100);
        for (int i = 0; i < 120; i++) {
            Check.come(y, 0, 0);
        }
        y.arm();
        Check.come(y, 1, 9);
        for (int i = 0; i < 50; i++) {
            Check.come(y, 2, 3);
        }
        CHECK.due("with the ring full, first", y.segment(0, 0), 240);
        CHECK.due("with the ring full, how many", y.segment(0, 1), 102);
    }

    /** The longest segments, kept from a ring that turned within them. */
    private static void overTheRingsEnd() {
        CHECK.says("a SEGMENT is kept: up to BEFORE SAMPLES ahead of the one at which it fired");
        int[] fires = {101, 155, 156, 255, 256, 257, 400};
        for (int fire : fires) {
            TraceBench x = Check.armed("equal 0 1", 100, 100);
            for (int i = 0; i < fire + 101; i += 2) {
                x.come(differing(i, fire) << 32 | differing(i + 1, fire));
            }
            CHECK.due("first, fired at " + fire, x.segment(0, 0), fire - 100);
            CHECK.due("how many", x.segment(0, 1), 201);
            int[] places = {0, 1, 54, 55, 99, 100, 101, 155, 156, 199, 200};
            for (int i : places) {
                CHECK.due("place " + i, x.at(0, 0, i), (byte) (fire - 100 + i));
                CHECK.due("place " + i, x.at(0, 1, i), (byte) (fire - 100 + i + (i == 100 ? 0 : 1)));
            }
            CHECK.due("no place 201", x.at(0, 0, 201), 1000);
        }
    }

    private static long differing(int i, int same) {
        return Check.sample(i, i == same ? i : i + 1, 0, 0);
    }

    private static void armedAnew() {
        CHECK.says("then it is ARMED anew, as by arm(), behind the latest SAMPLE.");
        TraceBench x = Check.armed("2 * rise 0 5; fall 0 5 within 3", 2, 1);
        Check.come(x, 0, 5, 0, 5, 5, 5, 5, 0);
        CHECK.due("begun again", x.told(9), 1);
        Check.come(x, 5, 0, 5, 0, 0, 0);
        CHECK.due("kept", x.told(5), 1);
        CHECK.due("fired", x.segment(0, 2), 11);
        CHECK.due("armed", x.told(0), 1);
        CHECK.due("stage", x.told(1), 0);
        CHECK.due("how often", x.told(2), 0);
        CHECK.due("it began", x.told(3), 13);
        CHECK.due("begun again", x.told(9), 0);
        TraceBench y = Check.armed("rise 0 5", 0, 1);
        Check.come(y, 0, 0, 5, 5);
        CHECK.due("will begin", y.told(3), 4);
        Check.come(y, 0, 5);
        CHECK.due("began", y.told(0), 2);
        Check.come(y, 0, 5);
        CHECK.due("the first behind a kept one is not looked at", y.told(5), 2);
        CHECK.due("armed", y.told(0), 1);
        CHECK.due("from 7 on", y.told(3), 7);
    }

    private static void heldAtEight() {
        CHECK.says("With 8 SEGMENTS there it is HELD: not ARMED.");
        TraceBench x = Check.armed("rise 0 5", 0, 0);
        for (int i = 1; i <= 8; i++) {
            CHECK.due("segment " + i, Check.come(x, 0, 5), i);
            CHECK.due("behind " + i, x.told(0), i < 8 ? 1 : 3);
            CHECK.due("stage behind " + i, x.told(1), i < 8 ? 0 : -4);
        }
        CHECK.due("no ninth", Check.come(x, 0, 5, 0, 5), 8);
        CHECK.due("no ninth", x.segment(8, 0), -1);
        CHECK.due("samples come all the same", x.told(4), 20);
        CHECK.due("the eighth", x.segment(7, 2), 15);
        CHECK.due("the first", x.segment(0, 2), 1);
    }

    private static void keeps() {
        CHECK.says("How many BEFORE, AFTER (0 to 100): 1. BAD");
        int[] edges = {LEAST, -1, 0, 1, 99, 100, 101, MOST};
        TraceBench x = new TraceBench();
        int before = 8;
        int after = 8;
        for (int b : edges) {
            for (int a : edges) {
                boolean well = b >= 0 && b <= 100 && a >= 0 && a <= 100;
                CHECK.due("keep(" + b + ", " + a + ")", x.keep(b, a), well ? 1 : -1);
                before = well ? b : before;
                after = well ? a : after;
                CHECK.due("before", x.told(6), before);
                CHECK.due("after", x.told(7), after);
            }
        }
    }

    private static void keepsInStates() {
        CHECK.says("STATE: it is ARMED, or has FIRED.");
        TraceBench x = new TraceBench();
        CHECK.due("new", x.keep(1, 2), 1);
        Check.trigger(x, "rise 0 5");
        CHECK.due("with a trigger", x.keep(1, 2), 1);
        x.arm();
        CHECK.due("armed", x.keep(3, 3), -2);
        CHECK.due("armed, BAD is the first that fits", x.keep(101, 3), -1);
        CHECK.due("armed, BAD is the first that fits", x.keep(3, -1), -1);
        Check.come(x, 0, 5);
        CHECK.due("fired", x.keep(3, 3), -2);
        CHECK.due("fired, BAD is the first that fits", x.keep(3, 101), -1);
        CHECK.due("before", x.told(6), 1);
        CHECK.due("after", x.told(7), 2);
        Check.come(x, 0, 0);
        CHECK.due("armed by itself", x.keep(3, 3), -2);
        CHECK.due("as told ahead of arm()", x.segment(0, 1), 4);
        Check.trigger(x, "rise 0 5");
        CHECK.due("not armed", x.keep(3, 3), 1);
        TraceBench y = held();
        CHECK.due("held", y.keep(4, 4), 1);
        CHECK.due("before", y.told(6), 4);
        y.drop();
        CHECK.due("held with seven", y.keep(5, 5), 1);
        CHECK.due("after", y.told(7), 5);
    }

    private static void arms() {
        CHECK.says("It is ARMED: 1. STATE: there is no trigger; FULL: 8 SEGMENTS.");
        TraceBench x = new TraceBench();
        CHECK.due("no trigger", x.arm(), -2);
        CHECK.due("neither", x.told(0), 0);
        Check.trigger(x, "rise 0 128");
        CHECK.due("a faulty one is none", x.arm(), -2);
        Check.trigger(x, "rise 0 5");
        CHECK.due("a trigger", x.arm(), 1);
        CHECK.due("armed", x.told(0), 1);
        TraceBench y = held();
        CHECK.due("8 segments", y.arm(), -3);
        CHECK.due("held", y.told(0), 3);
        Check.trigger(y, "fall 0 5");
        CHECK.due("8 segments, with another trigger", y.arm(), -3);
        CHECK.due("not armed", y.told(0), 0);
        y.drop();
        CHECK.due("7 segments", y.arm(), 1);
        CHECK.due("armed", y.told(0), 1);
        CHECK.due("the eighth", Check.come(y, 5, 0), 8);
        CHECK.due("held", y.told(0), 3);
    }

    private static void armsAnew() {
        CHECK.says("(Also when it is so, or has FIRED: anew.)");
        TraceBench x = Check.armed("2 * rise 0 5 within 3; 2 * fall 0 5", 9, 2);
        Check.come(x, 0, 0, 0, 0, 0, 5);
        CHECK.due("begun again", x.told(9), 1);
        CHECK.due("how often", x.told(2), 1);
        CHECK.due("armed: anew", x.arm(), 1);
        CHECK.due("stage", x.told(1), 0);
        CHECK.due("how often then", x.told(2), 0);
        CHECK.due("it will begin", x.told(3), 6);
        CHECK.due("begun again since", x.told(9), 0);
        Check.come(x, 0, 5, 0, 5);
        CHECK.due("two rises do not fit in", x.told(9), 1);
        TraceBench y = Check.armed("rise 0 5; fall 0 5", 9, 2);
        Check.come(y, 0, 5);
        CHECK.due("stage 1", y.told(1), 1);
        y.arm();
        CHECK.due("stage 0", y.told(1), 0);
        CHECK.due("a fall is not looked for", Check.come(y, 0, 0, 0, 0), 0);
        Check.come(y, 5, 0);
        CHECK.due("fired", y.told(0), 2);
        CHECK.due("fired: anew", y.arm(), 1);
        CHECK.due("armed", y.told(0), 1);
        CHECK.due("the segment that was begun is none", Check.come(y, 0, 0, 0, 0), 0);
        Check.come(y, 5, 0);
        CHECK.due("the next is one", Check.come(y, 0, 0), 1);
        CHECK.due("not ahead of the latest arm()", y.segment(0, 0), 8);
    }

    private static void comes() {
        CHECK.says("how many SEGMENTS there are then.");
        TraceBench x = new TraceBench();
        CHECK.due("without a trigger", x.come(-1), 0);
        Check.trigger(x, "rise 0 5");
        CHECK.due("not armed", Check.come(x, 0, 5), 0);
        x.keep(0, 0);
        x.arm();
        CHECK.due("none", Check.come(x, 0, 0), 0);
        CHECK.due("at the first of the two", Check.come(x, 5, 0), 1);
        CHECK.due("the second was the first behind arm()", Check.come(x, 5, 0), 2);
        CHECK.due("at the second of the two", Check.come(x, 0, 5), 3);
        x.drop();
        CHECK.due("dropped", Check.come(x, 0, 0), 2);
    }

    private static TraceBench withRows() {
        int[] numbers = new int[100];
        for (int i = 0; i < 100; i++) {
            numbers[i] = i - 20;
        }
        TraceBench x = Check.withSegment(numbers);
        for (int r = 0; r < 4; r++) {
            x.row(r, 0, 0);
        }
        return x;
    }

    private static void playsCounts() {
        CHECK.says("n SAMPLES (0 to 64) of PLACES of a ROW come on one trace");
        int[] counts = {LEAST, -1, 0, 1, 2, 63, 64, 65, 100, MOST};
        TraceBench x = withRows();
        int came = x.told(4);
        for (int n : counts) {
            boolean well = n >= 0 && n <= 64;
            CHECK.due("play " + n, x.play(0, 0, 0, n), well ? 1 : -1);
            came += well ? n : 0;
            CHECK.due("samples behind play of " + n, x.told(4), came);
        }
        for (int t : NO_TRACES) {
            CHECK.due("trace " + t, x.play(0, t, 0, 1), -1);
            CHECK.due("trace " + t + ", none", x.play(0, t, 0, 0), -1);
        }
        int[] noRows = {-1, 4, LEAST, MOST};
        for (int r : noRows) {
            CHECK.due("row " + r, x.play(r, 0, 0, 1), -1);
            CHECK.due("row " + r + ", none", x.play(r, 0, 0, 0), -1);
        }
        CHECK.due("nothing came", x.told(4), came);
        for (int i = 0; i < 4; i++) {
            CHECK.due("row " + i + " on trace " + i, x.play(i, i, 7 + i, 1), 1);
            for (int t = 0; t < 4; t++) {
                CHECK.due("0 on the others", x.sample(came + i, t), t == i ? 7 + i - 20 : 0);
            }
        }
    }

    private static void playsPlaces() {
        CHECK.says("BAD: also PLACES that are not there.");
        TraceBench x = withRows();
        int[][] wrong = {{-1, 1}, {100, 1}, {99, 2}, {37, 64}, {101, 1}, {-1, 64}, {-64, 64}, {LEAST, 64}, {MOST, 64},
            {MOST, 1}, {LEAST, 1}, {-1, 0}, {101, 0}, {MOST, 0}, {LEAST, 0}};
        for (int[] w : wrong) {
            CHECK.due("play from " + w[0] + ", " + w[1], x.play(0, 0, w[0], w[1]), -1);
        }
        CHECK.due("nothing came", x.told(4), 100);
        int[][] well = {{0, 1}, {99, 1}, {98, 2}, {36, 64}, {0, 64}, {0, 0}, {99, 0}, {100, 0}};
        for (int[] w : well) {
            int came = x.told(4);
            CHECK.due("play from " + w[0] + ", " + w[1], x.play(0, 0, w[0], w[1]), 1);
            CHECK.due("so many came", x.told(4), came + w[1]);
            for (int j = 0; j < w[1]; j += 21) {
                CHECK.due("PLACE " + (w[0] + j), x.sample(came + j, 0), w[0] + j - 20);
            }
        }
        TraceBench nothing = new TraceBench();
        for (int r = 0; r < 4; r++) {
            CHECK.due("nothing is in it", nothing.play(r, 0, 0, 1), -1);
            CHECK.due("nothing is in it, none come", nothing.play(r, 0, 0, 0), -1);
        }
        CHECK.due("nothing came", nothing.told(4), 0);
        TraceBench one = Check.withOnePlace(44);
        one.row(0, 0, 0);
        CHECK.due("one place", one.play(0, 1, 0, 1), 1);
        CHECK.due("its number", one.sample(2, 1), 44);
        CHECK.due("no second", one.play(0, 1, 0, 2), -1);
        CHECK.due("no second", one.play(0, 1, 1, 1), -1);
        CHECK.due("none from the end on", one.play(0, 1, 1, 0), 1);
    }

    private static void playsNumbers() {
        CHECK.says("(the lowest byte; a GAP: 0)");
        TraceBench x = Check.withSegment(127, -128, 1, -1, 0);
        x.row(0, 0, 0);
        int[] factors = {1, 2, 3, 128, 129, 255, 256, 257, -1, -127, -128, -129, 1000, -1000};
        int[] numbers = {127, -128, 1, -1, 0};
        for (int f : factors) {
            x.reckon(1, 7, 0, 0, f);
            int came = x.told(4);
            x.play(1, 3, 0, 5);
            for (int i = 0; i < 5; i++) {
                CHECK.due(f + " times " + numbers[i], x.sample(came + i, 3), (byte) (f * numbers[i]));
            }
        }
        TraceBench y = Check.withSegment(7, -7, 7, -7);
        y.row(0, 0, 0);
        y.reckon(0, 5, 0, 0, 0);
        y.play(0, 0, 0, 4);
        for (int i = 0; i < 4; i++) {
            CHECK.due("gaps at 1 and 3", y.sample(4 + i, 0), i % 2 == 0 ? 7 : 0);
        }
    }

    private static void playsAreFollowed() {
        CHECK.says("how many SEGMENTS then.");
        TraceBench x = Check.withSegment(0, 9, 0, 9, 0, 9);
        x.row(0, 0, 0);
        Check.trigger(x, "rise 2 5");
        x.keep(1, 0);
        x.arm();
        CHECK.due("on another trace", x.play(0, 1, 0, 6), 1);
        CHECK.due("three rises, each behind arming itself", x.play(0, 2, 0, 6), 4);
        CHECK.due("the last one", x.segment(3, 2), 17);
        CHECK.due("eight, and held", x.play(0, 2, 0, 6), 7);
        CHECK.due("eight, and held", x.play(0, 2, 0, 6), 8);
        CHECK.due("held", x.told(0), 3);
        CHECK.due("samples come all the same", x.told(4), 30);
    }

    private static void tells() {
        CHECK.says("0 whether it is ARMED (1), has FIRED (2), is HELD (3), neither (0), 1 the stage, "
            + "2 how often its EVENT has happened, 3 the SAMPLE at which it began, or will "
            + "(of 1 to 3: NONE, if it is not ARMED)");
        TraceBench x = new TraceBench();
        tell(x, 0, -4, -4, -4, 0, 0, 8, 8, 0, 0);
        Check.trigger(x, "2 * rise 0 5 within 5; fall 0 5");
        x.keep(3, 2);
        tell(x, 0, -4, -4, -4, 0, 0, 3, 2, 2, 0);
        x.arm();
        tell(x, 1, 0, 0, 0, 0, 0, 3, 2, 2, 0);
        Check.come(x, 0, 5);
        tell(x, 1, 0, 1, 0, 2, 0, 3, 2, 2, 0);
        Check.come(x, 0, 0, 0, 0);
        tell(x, 1, 0, 0, 5, 6, 0, 3, 2, 2, 1);
        Check.come(x, 5, 0, 5, 5);
        tell(x, 1, 1, 0, 8, 10, 0, 3, 2, 2, 1);
        Check.come(x, 5, 0);
        tell(x, 2, -4, -4, -4, 12, 0, 3, 2, 2, 1);
        Check.come(x, 1, 1);
        tell(x, 1, 0, 0, 14, 14, 1, 3, 2, 2, 0);
        Check.trigger(x, "in 0 1 2");
        tell(x, 0, -4, -4, -4, 14, 1, 3, 2, 1, 0);
        TraceBench y = held();
        tell(y, 3, -4, -4, -4, 16, 8, 0, 0, 1, 0);
        CHECK.says("9 how often stage 0 was begun again since arm() (also where it was by itself). BAD.");
        int[] wrong = {-1, 10, LEAST, MOST};
        for (int what : wrong) {
            CHECK.due("told(" + what + ")", y.told(what), -1);
            CHECK.due("told(" + what + ") of a new one", new TraceBench().told(what), -1);
            CHECK.due("told(" + what + ") armed", x.told(what), -1);
        }
    }

    private static void tell(TraceBench x, int... wanted) {
        for (int what = 0; what < wanted.length; what++) {
            CHECK.due("told(" + what + ") at " + wanted[4], x.told(what), wanted[what]);
        }
    }

    private static void tellsBegunAgain() {
        CHECK.says("9 how often stage 0 was begun again since arm() (also where it was by itself)");
        TraceBench x = Check.armed("rise 0 5 within 2", 0, 2);
        Check.come(x, 0, 0, 0, 0, 0, 0);
        CHECK.due("at 2 and 4", x.told(9), 2);
        Check.come(x, 0, 5);
        CHECK.due("at 6; fired", x.told(0), 2);
        CHECK.due("fired it stays", x.told(9), 3);
        Check.come(x, 0, 0);
        CHECK.due("armed by itself: since then", x.told(9), 0);
        Check.come(x, 0, 0, 0, 0);
        CHECK.due("at 12", x.told(9), 1);
        x.arm();
        CHECK.due("since arm()", x.told(9), 0);
    }

    private static void segments() {
        CHECK.says("Of SEGMENT k: 0 its first SAMPLE, 1 how many, 2 the SAMPLE at which it FIRED. BAD.");
        TraceBench none = new TraceBench();
        for (int what = 0; what < 3; what++) {
            CHECK.due("of none", none.segment(0, what), -1);
        }
        TraceBench x = Check.armed("rise 0 5", 1, 1);
        for (int n = 1; n <= 8; n++) {
            Check.come(x, 0, 5, 5, 0);
            CHECK.due("the latest", x.segment(n - 1, 0), 4 * n - 4);
            CHECK.due("the latest", x.segment(n - 1, 1), 3);
            CHECK.due("the latest", x.segment(n - 1, 2), 4 * n - 3);
            CHECK.due("behind the latest of " + n, x.segment(n, 0), -1);
        }
        int[] wrong = {-1, 8, LEAST, MOST};
        for (int k : wrong) {
            for (int what = 0; what < 3; what++) {
                CHECK.due("segment " + k, x.segment(k, what), -1);
            }
        }
        int[] whats = {-1, 3, LEAST, MOST};
        for (int what : whats) {
            CHECK.due("what " + what, x.segment(0, what), -1);
        }
    }

    private static void numbersAt() {
        CHECK.says("Its number at place i on a trace. 1000: there is none such.");
        CHECK.due("of none", new TraceBench().at(0, 0, 0), 1000);
        TraceBench one = Check.withOnePlace(-128);
        CHECK.due("one place", one.at(0, 0, 0), -128);
        CHECK.due("no second", one.at(0, 0, 1), 1000);
        CHECK.due("none ahead", one.at(0, 0, -1), 1000);
        TraceBench x = Check.armed("rise 3 1", 2, 1);
        x.come(Check.sample(-128, 127, 1, 0) << 32 | Check.sample(4, 5, 6, 0));
        x.come(Check.sample(7, 8, 9, 1) << 32 | Check.sample(10, 11, 12, -1));
        int[][] wanted = {{-128, 127, 1, 0}, {4, 5, 6, 0}, {7, 8, 9, 1}, {10, 11, 12, -1}};
        for (int i = 0; i < 4; i++) {
            for (int t = 0; t < 4; t++) {
                CHECK.due("place " + i + " on " + t, x.at(0, t, i), wanted[i][t]);
            }
        }
        int[] noPlaces = {-1, 4, 200, 201, LEAST, MOST};
        for (int i : noPlaces) {
            CHECK.due("place " + i, x.at(0, 0, i), 1000);
        }
        for (int t : NO_TRACES) {
            CHECK.due("trace " + t, x.at(0, t, 0), 1000);
        }
        int[] noSegments = {-1, 1, 8, LEAST, MOST};
        for (int k : noSegments) {
            CHECK.due("segment " + k, x.at(k, 0, 0), 1000);
        }
        x.drop();
        CHECK.due("dropped", x.at(0, 0, 0), 1000);
    }

    private static void drops() {
        CHECK.says("The latest SEGMENT goes: its number. NONE.");
        TraceBench x = new TraceBench();
        CHECK.due("of none", x.drop(), -4);
        Check.trigger(x, "rise 0 5");
        x.keep(0, 0);
        x.arm();
        Check.come(x, 0, 5, 0, 6);
        CHECK.due("of two", x.drop(), 1);
        CHECK.due("it is gone", x.segment(1, 0), -1);
        CHECK.due("the other is not", x.at(0, 0, 0), 5);
        CHECK.due("it is still armed", x.told(0), 1);
        CHECK.due("the next has its number", Check.come(x, 0, 7), 2);
        CHECK.due("and is another one", x.at(1, 0, 0), 7);
        CHECK.due("of two", x.drop(), 1);
        CHECK.due("of one", x.drop(), 0);
        CHECK.due("of none", x.drop(), -4);
        CHECK.due("segments", x.told(5), 0);
        TraceBench y = Check.armed("rise 0 5", 0, 2);
        Check.come(y, 0, 5, 0, 0, 0, 5);
        CHECK.due("fired, one is there", y.drop(), 0);
        CHECK.due("it has still fired", y.told(0), 2);
        CHECK.due("what was begun is kept", Check.come(y, 0, 0), 1);
        CHECK.due("fired at", y.segment(0, 2), 5);
    }

    private static void dropsHeld() {
        CHECK.says("(HELD it stays.)");
        TraceBench x = held();
        for (int k = 7; k >= 0; k--) {
            CHECK.due("drop", x.drop(), k);
            CHECK.due("held", x.told(0), 3);
            CHECK.due("nothing is looked for", Check.come(x, 0, 5), k);
        }
        CHECK.due("none", x.drop(), -4);
        CHECK.due("held with none", x.told(0), 3);
        CHECK.due("arm", x.arm(), 1);
        CHECK.due("armed", x.told(0), 1);
        CHECK.due("the first", Check.come(x, 0, 5), 1);
    }
}
