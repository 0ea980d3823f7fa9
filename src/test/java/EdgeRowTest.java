/** Rows and promises 19 to 25: each sentence that names an edge, at it and beyond. */
public final class EdgeRowTest {
    private static final Check CHECK = new Check();
    private static final int LEAST = Integer.MIN_VALUE;
    private static final int MOST = Integer.MAX_VALUE;
    private static final int[] NOT_OF_FOUR = {-1, 4, LEAST, MOST};
    private static final long GAP = Long.MIN_VALUE + 77;

    public static void main(String[] args) {
        rowsOfSegments();
        rowsRefused();
        theShorter();
        twoWithGaps();
        yIsNotLookedAt();
        sums();
        steps();
        cuts();
        fills();
        times();
        overWhatWasThere();
        intoItself();
        reckonRefused();
        reckonNumbers();
        wraps();
        places();
        abouts();
        totals();
        turnEdges();
        turnGaps();
        turnMeasures();
        turnsRefused();
        eyePlaces();
        eyeBands();
        eyesRefused();
        CHECK.finish("EdgeRowTest");
    }

    /** Row 0 has these numbers (-128 to 127), with a gap wherever GAP stands. */
    private static TraceBench withRow(long... numbers) {
        int[] first = new int[numbers.length];
        int[] second = new int[numbers.length];
        for (int i = 0; i < numbers.length; i++) {
            first[i] = numbers[i] == GAP ? 0 : (int) numbers[i];
            second[i] = numbers[i] == GAP ? -1 : 0;
        }
        TraceBench x = Check.withSegment(first, second);
        x.row(0, 0, 0);
        x.row(1, 0, 1);
        x.reckon(1, 5, 1, 0, 0);
        x.reckon(0, 0, 0, 1, 0);
        return x;
    }

    private static void is(String what, TraceBench x, int r, long... wanted) {
        CHECK.due(what + ": PLACES", x.about(r, 0), wanted.length);
        int gaps = 0;
        int firstGap = -4;
        for (int i = 0; i < wanted.length; i++) {
            if (wanted[i] == GAP) {
                firstGap = gaps == 0 ? i : firstGap;
                gaps++;
            }
            CHECK.due(what + ": PLACE " + i, x.place(r, i), wanted[i] == GAP ? 0 : wanted[i]);
        }
        CHECK.due(what + ": GAPS", x.about(r, 1), gaps);
        CHECK.due(what + ": the first GAP", x.about(r, 4), firstGap);
    }

    private static int[] upTo(int n) {
        int[] made = new int[n];
        for (int i = 0; i < n; i++) {
            made[i] = i - 100;
        }
        return made;
    }

    private static void rowsOfSegments() {
        CHECK.says("A ROW has PLACES, one for each SAMPLE of its SEGMENT; each a long, or a GAP. ROWS 0 to 3.");
        int[] lengths = {2, 3, 100, 200, 201};
        for (int length : lengths) {
            TraceBench x = Check.withSegment(upTo(length));
            for (int r = 0; r < 4; r++) {
                CHECK.due("row " + r + " of " + length, x.row(r, 0, 0), length);
                CHECK.due("PLACES", x.about(r, 0), length);
                CHECK.due("no GAPS", x.about(r, 1), 0);
                CHECK.due("the first", x.place(r, 0), -100);
                CHECK.due("the last", x.place(r, length - 1), length - 101);
                CHECK.due("behind the last", x.place(r, length), 0);
                CHECK.due("ahead of the first", x.place(r, -1), 0);
            }
        }
        longest();
        TraceBench one = Check.withOnePlace(-7);
        CHECK.due("one place", one.row(2, 0, 0), 1);
        is("one place", one, 2, -7);
        CHECK.due("its total", one.total(2), -7);
        CHECK.due("its least", one.about(2, 2), 0);
        CHECK.due("its greatest", one.about(2, 3), 0);
        CHECK.due("its turns", one.turns(2, 0, 0), 0);
        CHECK.due("its eye", one.eye(2, 0, 1, 0, -7, 1, 0), 1);
        CHECK.due("with itself", one.reckon(3, 0, 2, 2, 0), 1);
        is("twice one place", one, 3, -14);
    }

    /** All that is done with a row, done with one of as many places as a segment can have. */
    private static void longest() {
        TraceBench x = Check.withSegment(upTo(201));
        x.row(0, 0, 0);
        // Of each that can be reckoned: GAPS, the PLACES of the least and the greatest, the first GAP.
        int[][] wanted = {{0, 0, 200, -4}, {0, 0, 0, -4}, {0, 100, 0, -4}, {1, 1, 200, 0}, {2, 2, 2, 0},
            {102, 102, 200, 0}, {0, 0, 200, -4}, {0, 0, 200, -4}};
        for (int what = 0; what < 8; what++) {
            CHECK.due("what " + what + " of 201", x.reckon(1, what, 0, 0, 2), 201);
            for (int i = 1; i < 5; i++) {
                CHECK.due("what " + what + ", about " + i, x.about(1, i), wanted[what][i - 1]);
            }
            CHECK.due("it comes to 1 once at most", x.turns(1, 1, 0), 0);
        }
        CHECK.due("its last PLACE", x.eye(0, 0, 1, 0, 100, 1, 0), 1);
        CHECK.due("all", x.eye(0, 0, 1, 0, -100, 201, 0), 201);
        CHECK.due("its total", x.total(0), 0);
        CHECK.due("its last PLACES", x.play(0, 0, 137, 64), 1);
        CHECK.due("the last", x.sample(x.told(4) - 1, 0), 100);
    }

    private static void rowsRefused() {
        CHECK.says("A ROW becomes what a trace of SEGMENT k has: how many PLACES. BAD.");
        TraceBench x = Check.withSegment(new int[] {1, 2}, new int[] {3, 4});
        for (int wrong : NOT_OF_FOUR) {
            CHECK.due("row " + wrong, x.row(wrong, 0, 0), -1);
            CHECK.due("trace " + wrong, x.row(0, 0, wrong), -1);
        }
        int[] noSegments = {-1, 1, 7, 8, LEAST, MOST};
        for (int k : noSegments) {
            CHECK.due("segment " + k, x.row(0, k, 0), -1);
        }
        CHECK.due("nothing is in it still", x.about(0, 0), -1);
        CHECK.due("of no segment", new TraceBench().row(0, 0, 0), -1);
        long[][] wanted = {{1, 2}, {3, 4}, {0, 0}, {0, 1}};
        for (int t = 0; t < 4; t++) {
            CHECK.due("trace " + t, x.row(t, 0, t), 2);
            is("trace " + t, x, t, wanted[t]);
        }
        x.drop();
        is("its segment went", x, 0, 1, 2);
    }

    private static void theShorter() {
        CHECK.says("as many as the shorter one has");
        TraceBench x = Check.armed("rise 0 50", 2, 0);
        Check.come(x, 1, 90, 1, 2, 3, 80);
        x.row(0, 0, 0);
        x.row(1, 1, 0);
        for (int what = 0; what < 3; what++) {
            CHECK.due("two and three", x.reckon(2, what, 0, 1, 0), 2);
            CHECK.due("PLACES", x.about(2, 0), 2);
            CHECK.due("three and two", x.reckon(2, what, 1, 0, 0), 2);
            CHECK.due("three and three", x.reckon(2, what, 1, 1, 0), 3);
        }
        x.reckon(2, 1, 0, 1, 0);
        is("two less three", x, 2, -1, 87);
        x.reckon(2, 1, 1, 0, 0);
        is("three less two", x, 2, 1, -87);
        CHECK.due("into the longer", x.reckon(1, 0, 0, 1, 0), 2);
        is("the longer became short", x, 1, 3, 93);
        CHECK.due("what was behind is not there", x.place(1, 2), 0);
        CHECK.due("total", x.total(1), 96);
    }

    private static void twoWithGaps() {
        CHECK.says("a GAP where one has");
        TraceBench x = withRow(1, GAP, 3, GAP);
        x.reckon(2, 6, 0, 0, 0);
        x.reckon(2, 5, 2, 0, 3);
        is("x", x, 0, 1, GAP, 3, GAP);
        is("y", x, 2, GAP, GAP, 3, 3);
        long[][] wanted = {{GAP, GAP, 6, GAP}, {GAP, GAP, 0, GAP}, {GAP, GAP, 9, GAP}};
        for (int what = 0; what < 3; what++) {
            CHECK.due("x, y", x.reckon(3, what, 0, 2, 0), 4);
            is("x, y by " + what, x, 3, wanted[what]);
            CHECK.due("y, x", x.reckon(3, what, 2, 0, 0), 4);
            is("y, x by " + what, x, 3, wanted[what]);
        }
    }

    private static void yIsNotLookedAt() {
        CHECK.says("from x alone (y is not looked at)");
        int[] ys = {-1, 0, 2, 3, 4, LEAST, MOST};
        for (int what = 3; what <= 7; what++) {
            for (int y : ys) {
                TraceBench x = withRow(1, 2, 3);
                CHECK.due("what " + what + ", y " + y, x.reckon(1, what, 0, y, 1), 3);
            }
        }
    }

    private static void sums() {
        CHECK.says("3 the sum of the n PLACES up to it (a GAP where there are fewer, or one of them is a GAP)");
        TraceBench x = withRow(1, 2, 4, 8, 16);
        long[][] wanted = {{1, 2, 4, 8, 16}, {GAP, 3, 6, 12, 24}, {GAP, GAP, 7, 14, 28}, {GAP, GAP, GAP, 15, 30},
            {GAP, GAP, GAP, GAP, 31}, {GAP, GAP, GAP, GAP, GAP}};
        for (int n = 1; n <= 6; n++) {
            CHECK.due("sums of " + n, x.reckon(1, 3, 0, 0, n), 5);
            is("sums of " + n, x, 1, wanted[n - 1]);
        }
        TraceBench y = withRow(1, 2, GAP, 8, 16, 32);
        y.reckon(1, 3, 0, 0, 1);
        is("sums of 1", y, 1, 1, 2, GAP, 8, 16, 32);
        y.reckon(1, 3, 0, 0, 2);
        is("sums of 2", y, 1, GAP, 3, GAP, GAP, 24, 48);
        y.reckon(1, 3, 0, 0, 3);
        is("sums of 3", y, 1, GAP, GAP, GAP, GAP, GAP, 56);
        y.reckon(1, 3, 0, 0, 4);
        is("sums of 4", y, 1, GAP, GAP, GAP, GAP, GAP, GAP);
        TraceBench w = withRow(GAP, 2, 3);
        w.reckon(1, 3, 0, 0, 2);
        is("a GAP at the first PLACE", w, 1, GAP, GAP, 5);
        TraceBench z = Check.withSegment(upTo(65));
        z.row(0, 0, 0);
        z.reckon(1, 3, 0, 0, 64);
        CHECK.due("63 are fewer than 64", z.about(1, 1), 63);
        CHECK.due("64 are not", z.place(1, 63), -100 * 64 + 63 * 32);
        CHECK.due("nor 65", z.place(1, 64), -100 * 64 + 65 * 32);
    }

    private static void steps() {
        CHECK.says("4 less the PLACE n ahead of it (a GAP likewise)");
        TraceBench x = withRow(1, 2, 4, 8, 16);
        long[][] wanted = {{GAP, 1, 2, 4, 8}, {GAP, GAP, 3, 6, 12}, {GAP, GAP, GAP, 7, 14}, {GAP, GAP, GAP, GAP, 15},
            {GAP, GAP, GAP, GAP, GAP}};
        for (int n = 1; n <= 5; n++) {
            CHECK.due("less " + n + " ahead", x.reckon(1, 4, 0, 0, n), 5);
            is("less " + n + " ahead", x, 1, wanted[n - 1]);
        }
        TraceBench y = withRow(1, GAP, 4, 8, 16);
        y.reckon(1, 4, 0, 0, 1);
        is("less 1 ahead", y, 1, GAP, GAP, GAP, 4, 8);
        y.reckon(1, 4, 0, 0, 2);
        is("less 2 ahead, a GAP between", y, 1, GAP, GAP, 3, GAP, 12);
        TraceBench z = Check.withSegment(upTo(66));
        z.row(0, 0, 0);
        z.reckon(1, 4, 0, 0, 64);
        CHECK.due("64 ahead there is none", z.about(1, 1), 64);
        CHECK.due("64 ahead of 64", z.place(1, 64), 64);
        CHECK.due("64 ahead of 65", z.place(1, 65), 64);
    }

    private static void cuts() {
        CHECK.says("5 a GAP where it is below n");
        TraceBench x = withRow(-3, -2, -1, 0, 1, GAP, 2);
        x.reckon(1, 5, 0, 0, 0);
        is("below 0", x, 1, GAP, GAP, GAP, 0, 1, GAP, 2);
        x.reckon(1, 5, 0, 0, -2);
        is("below -2", x, 1, GAP, -2, -1, 0, 1, GAP, 2);
        x.reckon(1, 5, 0, 0, 2);
        is("below 2", x, 1, GAP, GAP, GAP, GAP, GAP, GAP, 2);
        x.reckon(1, 5, 0, 0, 3);
        is("below 3", x, 1, GAP, GAP, GAP, GAP, GAP, GAP, GAP);
        TraceBench y = withRow(100, 111, -100, -91);
        y.reckon(0, 7, 0, 0, 9);
        y.reckon(1, 5, 0, 0, 1000);
        is("999 is below 1000", y, 1, GAP, GAP, GAP, GAP);
        y.reckon(1, 5, 0, 0, 999);
        is("999 is not below 999", y, 1, GAP, 999, GAP, GAP);
        y.reckon(1, 5, 0, 0, -900);
        is("-900 is not below -900", y, 1, 900, 999, -900, -819);
        TraceBench z = withRow(100, -100, 99);
        z.reckon(0, 7, 0, 0, 10);
        z.reckon(1, 5, 0, 0, 1000);
        is("1000 is not below 1000", z, 1, 1000, GAP, GAP);
        z.reckon(1, 5, 0, 0, -1000);
        is("-1000 is not below -1000", z, 1, 1000, -1000, 990);
    }

    private static void fills() {
        CHECK.says("6 GAPS filled by what was last (ahead of all: stay)");
        TraceBench x = withRow(GAP, GAP, 5, GAP, GAP, -6, GAP);
        CHECK.due("fill", x.reckon(1, 6, 0, 0, 0), 7);
        is("filled", x, 1, GAP, GAP, 5, 5, 5, -6, -6);
        TraceBench y = withRow(GAP, GAP, GAP);
        y.reckon(1, 6, 0, 0, 0);
        is("nothing to fill with", y, 1, GAP, GAP, GAP);
        TraceBench z = withRow(0, GAP, 3);
        z.reckon(1, 6, 0, 0, 0);
        is("by a 0", z, 1, 0, 0, 3);
        TraceBench w = withRow(1, 2, 3);
        w.reckon(1, 6, 0, 0, 0);
        is("without GAPS", w, 1, 1, 2, 3);
    }

    private static void overWhatWasThere() {
        CHECK.says("ROW r becomes reckoned from ROWS x and y");
        long[][] wanted = {{GAP, 8, GAP}, {GAP, 0, GAP}, {GAP, 16, GAP}, {GAP, 4, GAP}, {GAP, GAP, GAP}, {GAP, 4, GAP},
            {GAP, 4, 4}, {GAP, 4, GAP}};
        for (int what = 0; what < 8; what++) {
            TraceBench x = withRow(GAP, 4, GAP);
            x.row(2, 0, 0);
            x.reckon(2, what, 0, 0, 1);
            is("what " + what + " into a ROW without GAPS", x, 2, wanted[what]);
            x.row(3, 0, 0);
            x.reckon(2, what, 3, 3, 1);
            CHECK.due("what " + what + " into a ROW with GAPS", x.about(2, 1), what == 4 ? 1 : what == 5 ? 2 : 0);
        }
        TraceBench y = withRow(GAP, GAP);
        y.row(0, 0, 0);
        is("a ROW of GAPS becomes a trace", y, 0, 0, 0);
    }

    private static void times() {
        CHECK.says("7 n times it");
        TraceBench x = withRow(-128, -1, 0, GAP, 1, 127);
        int[] factors = {-1000, -1, 0, 1, 2, 1000};
        for (int n : factors) {
            CHECK.due(n + " times", x.reckon(1, 7, 0, 0, n), 6);
            is(n + " times", x, 1, -128L * n, -n, 0, GAP, n, 127L * n);
        }
    }

    private static void intoItself() {
        CHECK.says("ROW r becomes reckoned from ROWS x and y, PLACE by PLACE");
        long[][] wanted = {{2, 4, GAP, 8, 10}, {0, 0, GAP, 0, 0}, {1, 4, GAP, 16, 25}, {GAP, 3, GAP, GAP, 9},
            {GAP, 1, GAP, GAP, 1}, {GAP, 2, GAP, 4, 5}, {1, 2, 2, 4, 5}, {2, 4, GAP, 8, 10}};
        int[] ns = {0, 0, 0, 2, 1, 2, 0, 2};
        for (int what = 0; what < 8; what++) {
            TraceBench x = withRow(1, 2, GAP, 4, 5);
            CHECK.due("into another", x.reckon(3, what, 0, 0, ns[what]), 5);
            is("what " + what + " into another", x, 3, wanted[what]);
            is("x is the same", x, 0, 1, 2, GAP, 4, 5);
            CHECK.due("into itself", x.reckon(0, what, 0, 0, ns[what]), 5);
            is("what " + what + " into itself", x, 0, wanted[what]);
        }
    }

    private static void reckonRefused() {
        CHECK.says("BAD: r, x, y (of 0 to 2) no ROW, or nothing is in it, what, n");
        TraceBench x = withRow(1, 2, 3);
        x.row(1, 0, 0);
        for (int what = 0; what < 8; what++) {
            for (int wrong : NOT_OF_FOUR) {
                CHECK.due("r " + wrong, x.reckon(wrong, what, 0, 0, 1), -1);
                CHECK.due("x " + wrong, x.reckon(2, what, wrong, 0, 1), -1);
                if (what < 3) {
                    CHECK.due("y " + wrong, x.reckon(2, what, 0, wrong, 1), -1);
                }
            }
            CHECK.due("nothing is in x", x.reckon(2, what, 3, 0, 1), -1);
            if (what < 3) {
                CHECK.due("nothing is in y", x.reckon(2, what, 0, 3, 1), -1);
            }
        }
        int[] whats = {-1, 8, 9, LEAST, MOST};
        for (int what : whats) {
            CHECK.due("what " + what, x.reckon(2, what, 0, 0, 1), -1);
        }
        CHECK.due("nothing is in r, still", x.about(2, 0), -1);
        CHECK.due("nothing needs to be in r", x.reckon(3, 0, 0, 1, 0), 3);
    }

    private static void reckonNumbers() {
        CHECK.says("n (of 3, 4: 1 to 64; else -1000 to 1000)");
        int[] ns = {LEAST, -1001, -1000, -1, 0, 1, 2, 63, 64, 65, 1000, 1001, MOST};
        for (int what = 0; what < 8; what++) {
            TraceBench x = withRow(1, 2, 3);
            boolean counts = what == 3 || what == 4;
            for (int n : ns) {
                boolean well = counts ? n >= 1 && n <= 64 : n >= -1000 && n <= 1000;
                CHECK.due("what " + what + ", n " + n, x.reckon(2, what, 0, 0, n), well ? 3 : -1);
            }
        }
    }

    private static void wraps() {
        CHECK.says("(Wrapping.)");
        TraceBench x = Check.withSegment(-128, 127);
        x.row(0, 0, 0);
        x.row(1, 0, 0);
        for (int i = 0; i < 8; i++) {
            x.reckon(1, 2, 1, 0, 0);
        }
        long least = Long.MIN_VALUE;
        CHECK.due("-128 to the ninth", x.place(1, 0), least);
        x.reckon(2, 0, 1, 1, 0);
        CHECK.due("its sum with itself", x.place(2, 0), 0);
        x.reckon(2, 0, 1, 0, 0);
        CHECK.due("128 less", x.place(2, 0), Long.MAX_VALUE - 127);
        x.reckon(2, 1, 0, 1, 0);
        CHECK.due("-128 less it", x.place(2, 0), least - 128);
        x.reckon(2, 2, 1, 1, 0);
        CHECK.due("times itself", x.place(2, 0), 0);
        x.reckon(2, 7, 1, 0, -1);
        CHECK.due("-1 times", x.place(2, 0), least);
        x.reckon(2, 7, 1, 0, 3);
        CHECK.due("3 times", x.place(2, 0), least);
        long second = x.place(1, 1);
        x.reckon(2, 3, 1, 0, 2);
        CHECK.due("the sum of two", x.place(2, 1), least + second);
        x.reckon(2, 4, 1, 0, 1);
        CHECK.due("less the one ahead", x.place(2, 1), second - least);
        CHECK.due("the total", x.total(1), least + second);
        x.reckon(2, 5, 1, 0, -1000);
        CHECK.due("the least is below all", x.about(2, 4), 0);
    }

    private static void places() {
        CHECK.says("A PLACE of a ROW. 0 also: a GAP, there is none such.");
        TraceBench x = withRow(5, GAP, -6);
        CHECK.due("place 0", x.place(0, 0), 5);
        CHECK.due("a GAP", x.place(0, 1), 0);
        CHECK.due("place 2", x.place(0, 2), -6);
        int[] none = {-1, 3, 200, 201, LEAST, MOST};
        for (int i : none) {
            CHECK.due("place " + i, x.place(0, i), 0);
        }
        for (int r : NOT_OF_FOUR) {
            CHECK.due("row " + r, x.place(r, 0), 0);
        }
        CHECK.due("nothing is in it", x.place(3, 0), 0);
        CHECK.due("nothing is in it", x.place(3, -1), 0);
        TraceBench y = Check.armed("rise 0 50", 1, 1);
        Check.come(y, 60, 1, 60, 61, 7, 60);
        CHECK.due("three", y.row(0, 0, 0), 3);
        Check.trigger(y, "rise 0 50");
        y.keep(0, 0);
        y.arm();
        Check.come(y, 0, 60);
        CHECK.due("one", y.row(0, 1, 0), 1);
        CHECK.due("what was longer is not there", y.place(0, 1), 0);
        CHECK.due("nor in the total", y.total(0), 60);
    }

    private static void abouts() {
        CHECK.says("2 the PLACE of the least (the first of several), 3 of the greatest, 4 the first GAP.");
        aboutIs(withRow(3, -5, 9, -5, 9), 5, 0, 1, 2, -4);
        aboutIs(withRow(7, 7, 7), 3, 0, 0, 0, -4);
        aboutIs(withRow(GAP, 7, 7), 3, 1, 1, 1, 0);
        aboutIs(withRow(1, 2, 3), 3, 0, 0, 2, -4);
        aboutIs(withRow(3, 2, 1), 3, 0, 2, 0, -4);
        aboutIs(withRow(5, GAP, 6, GAP), 4, 2, 0, 2, 1);
        aboutIs(withRow(-5, GAP, -6), 3, 1, 2, 0, 1);
        aboutIs(withRow(1, 2, GAP), 3, 1, 0, 1, 2);
        CHECK.says("BAD: also nothing is in it; NONE.");
        aboutIs(withRow(GAP, GAP), 2, 2, -4, -4, 0);
        TraceBench x = withRow(1, 2);
        for (int what = 0; what < 5; what++) {
            CHECK.due("nothing is in it", x.about(2, what), -1);
            for (int r : NOT_OF_FOUR) {
                CHECK.due("row " + r, x.about(r, what), -1);
            }
        }
        int[] whats = {-1, 5, LEAST, MOST};
        for (int what : whats) {
            CHECK.due("what " + what, x.about(0, what), -1);
            CHECK.due("what " + what + " of nothing", x.about(2, what), -1);
        }
    }

    private static void aboutIs(TraceBench x, int... wanted) {
        for (int what = 0; what < 5; what++) {
            CHECK.due("about " + what, x.about(0, what), wanted[what]);
        }
    }

    private static void totals() {
        CHECK.says("The sum of all that are no GAPS. 0 also: there is none such.");
        CHECK.due("with GAPS", withRow(1, GAP, 3, GAP, -10).total(0), -6);
        CHECK.due("GAPS alone", withRow(GAP, GAP).total(0), 0);
        TraceBench x = withRow(1, 2);
        CHECK.due("nothing is in it", x.total(2), 0);
        for (int r : NOT_OF_FOUR) {
            CHECK.due("row " + r, x.total(r), 0);
        }
        TraceBench y = Check.withSegment(upTo(201));
        y.row(3, 0, 0);
        CHECK.due("201", y.total(3), 0);
        y.reckon(3, 5, 3, 0, 1);
        CHECK.due("100 of them", y.total(3), 5050);
    }

    private static void turnsAre(String what, TraceBench x, long level, int... wanted) {
        for (int i = 0; i < 5; i++) {
            CHECK.due(what + ", turns " + i, x.turns(0, level, i), wanted[i]);
        }
    }

    private static void turnEdges() {
        CHECK.says("between two PLACES next to one another at which it comes from below the level to it or above");
        turnsAre("4, 5 is one, 5, 6 is none", withRow(4, 5, 6, 4, 5), 5, 1, 3, 3, 3, 2);
        turnsAre("not from the level itself", withRow(5, 5, 4, 5, 5), 5, 0, 0, 0, 0, 0);
        turnsAre("the shortest", withRow(0, 5, 0, 5), 5, 1, 2, 2, 2, 1);
        turnsAre("the first PLACE has none ahead", withRow(5, 0, 5), 5, 0, 0, 0, 0, 0);
        turnsAre("one alone", withRow(0, 5, 0, 0), 5, 0, 0, 0, 0, 0);
        turnsAre("the very last", withRow(0, 5, 0, 0, 5), 5, 1, 3, 3, 3, 1);
        turnsAre("far beyond the level", withRow(-128, 127, -128, 127), 0, 1, 2, 2, 2, 1);
        turnsAre("none is below", withRow(0, 5, 0, 5), Long.MIN_VALUE, 0, 0, 0, 0, 0);
        turnsAre("all are below", withRow(0, 5, 0, 5), Long.MAX_VALUE, 0, 0, 0, 0, 0);
        turnsAre("a level below 0", withRow(-6, -5, -6, -5), -5, 1, 2, 2, 2, 1);
        turnsAre("one below that", withRow(-6, -5, -6, -5), -6, 0, 0, 0, 0, 0);
        turnsAre("one above that", withRow(-6, -5, -6, -5), -4, 0, 0, 0, 0, 0);
        TraceBench x = withRow(-128, 127, -128, 127);
        for (int i = 0; i < 8; i++) {
            x.row(1, 0, 0);
            x.reckon(0, 2, 0, 1, 0);
        }
        turnsAre("the least long is below its next", x, Long.MIN_VALUE + 1, 1, 2, 2, 2, 1);
        turnsAre("the least long is not below itself", x, Long.MIN_VALUE, 0, 0, 0, 0, 0);
    }

    private static void turnGaps() {
        CHECK.says("(both no GAPS), without a GAP between");
        turnsAre("a GAP ahead of the first", withRow(GAP, 5, 0, 5, 0, 5), 5, 1, 2, 2, 2, 1);
        turnsAre("a GAP where it would come to", withRow(0, GAP, 0, 5, 0, 5), 5, 1, 2, 2, 2, 1);
        turnsAre("a GAP is no 0 below", withRow(GAP, 5, GAP, 5), 5, 0, 0, 0, 0, 0);
        turnsAre("a GAP is no 0 above", withRow(-9, GAP, -9, GAP), -5, 0, 0, 0, 0, 0);
        turnsAre("a GAP between", withRow(0, 5, GAP, 0, 5), 5, 0, 0, 0, 0, 0);
        turnsAre("a GAP between, then one", withRow(0, 5, GAP, 0, 5, 5, 0, 5), 5, 1, 3, 3, 3, 2);
        turnsAre("one, then a GAP between", withRow(0, 5, 5, 0, 5, GAP, 0, 5), 5, 1, 3, 3, 3, 2);
        turnsAre("a GAP behind the last", withRow(0, 5, 0, 5, GAP), 5, 1, 2, 2, 2, 1);
        turnsAre("GAPS alone", withRow(GAP, GAP, GAP), 5, 0, 0, 0, 0, 0);
    }

    private static void turnMeasures() {
        CHECK.says("0 how many TURNS, 1 the least length, 2 the greatest, 3 all lengths together, "
            + "4 how many PLACES of these TURNS are not below the level.");
        turnsAre("the least first", withRow(0, 5, 0, 5, 5, 0, 0, 5), 5, 2, 2, 4, 6, 3);
        turnsAre("the least last", withRow(0, 5, 5, 0, 0, 5, 0, 5), 5, 2, 2, 4, 6, 3);
        turnsAre("the least between", withRow(0, 5, 0, 0, 5, 0, 5, 6, 7, 0, 5), 5, 3, 2, 4, 9, 5);
        turnsAre("what is ahead of them does not count", withRow(5, 5, 5, 0, 5, 0, 5), 5, 1, 2, 2, 2, 1);
        turnsAre("nor what is behind", withRow(0, 5, 0, 5, 5, 5, 5), 5, 1, 2, 2, 2, 1);
        int[] numbers = new int[201];
        for (int i = 0; i < 201; i++) {
            numbers[i] = i % 2 == 1 ? 5 : 0;
        }
        TraceBench x = Check.withSegment(numbers);
        x.row(0, 0, 0);
        turnsAre("as many as can be", x, 5, 99, 2, 2, 198, 99);
        numbers = new int[201];
        numbers[1] = 5;
        numbers[200] = 5;
        TraceBench y = Check.withSegment(numbers);
        y.row(0, 0, 0);
        turnsAre("as long as can be", y, 5, 1, 199, 199, 199, 1);
    }

    private static void turnsRefused() {
        CHECK.says("BAD: also nothing is in it. (0 without TURNS.)");
        TraceBench x = withRow(1, 2);
        for (int what = 0; what < 5; what++) {
            CHECK.due("nothing is in it", x.turns(2, 0, what), -1);
            CHECK.due("without turns", x.turns(0, 0, what), 0);
            for (int r : NOT_OF_FOUR) {
                CHECK.due("row " + r, x.turns(r, 0, what), -1);
            }
        }
        int[] whats = {-1, 5, LEAST, MOST};
        for (int what : whats) {
            CHECK.due("what " + what, x.turns(0, 0, what), -1);
        }
    }

    private static void eyePlaces() {
        CHECK.says("of a ROW PLACES i from first on, i less it modulo n (1 to 32) is m");
        int[] numbers = upTo(70);
        TraceBench x = Check.withSegment(numbers);
        x.row(0, 0, 0);
        int[] firsts = {0, 1, 2, 31, 37, 38, 68, 69, 70, 71, MOST};
        int[] ns = {1, 2, 3, 31, 32};
        for (int first : firsts) {
            for (int n : ns) {
                int[] ms = {0, n / 2, n - 1};
                for (int m : ms) {
                    int wanted = 0;
                    for (int i = 0; i < 70; i++) {
                        wanted += i >= first && (i - first) % n == m ? 1 : 0;
                    }
                    CHECK.due("from " + first + " by " + n + " at " + m, x.eye(0, first, n, m, -100, 1000, 0), wanted);
                }
            }
        }
        CHECK.due("the one place", x.eye(0, 69, 32, 0, -31, 1, 0), 1);
        CHECK.due("and no other", x.eye(0, 68, 32, 0, -31, 1, 0), 0);
        CHECK.due("and no other", x.eye(0, 68, 32, 1, -31, 1, 0), 1);
    }

    private static void eyeBands() {
        CHECK.says("are counted by (value less low) / high (a whole number, rounded down) is c (0 to 15): how many.");
        for (int high = 1; high <= 5; high++) {
            for (int c = 0; c < 16; c += 5) {
                int low = -30;
                int least = low + c * high;
                TraceBench x = withRow(least - 1, least, least + high - 1, least + high);
                CHECK.due("its two edges", x.eye(0, 0, 4, 0, low, high, c), 0);
                CHECK.due("its two edges", x.eye(0, 0, 4, 1, low, high, c), 1);
                CHECK.due("its two edges", x.eye(0, 0, 4, 2, low, high, c), 1);
                CHECK.due("its two edges", x.eye(0, 0, 4, 3, low, high, c), 0);
            }
        }
        TraceBench y = withRow(-1, 0, 1, GAP, 127);
        CHECK.due("-1 is rounded down", y.eye(0, 0, 1, 0, 0, 1000, 0), 3);
        CHECK.due("a GAP is no 0", y.eye(0, 0, 1, 0, 0, 1, 0), 1);
        CHECK.due("high 1000, c 15", y.eye(0, 0, 1, 0, -15001, 1000, 15), 4);
        CHECK.due("high 1000, c 15, one on", y.eye(0, 0, 1, 0, -15000, 1000, 15), 3);
        CHECK.due("high 1000, c 15, its end", y.eye(0, 0, 1, 0, -15872, 1000, 15), 4);
        CHECK.due("high 1000, c 15, its end", y.eye(0, 0, 1, 0, -15873, 1000, 15), 3);
        CHECK.due("far below", y.eye(0, 0, 1, 0, Long.MIN_VALUE, 1000, 0), 0);
        CHECK.due("far above", y.eye(0, 0, 1, 0, Long.MAX_VALUE, 1000, 0), 0);
        CHECK.due("GAPS alone", withRow(GAP, GAP).eye(0, 0, 1, 0, 0, 1, 0), 0);
    }

    private static void eyesRefused() {
        CHECK.says("BAD: also first below 0, high not 1 to 1000, nothing is in it.");
        TraceBench x = withRow(1, 2, 3);
        int[] firsts = {LEAST, -1};
        for (int first : firsts) {
            CHECK.due("first " + first, x.eye(0, first, 1, 0, 0, 1, 0), -1);
        }
        int[] highs = {LEAST, -1, 0, 1, 2, 999, 1000, 1001, MOST};
        for (int high : highs) {
            CHECK.due("high " + high, x.eye(0, 0, 1, 0, 3, high, 0), high >= 1 && high <= 1000 ? 1 : -1);
        }
        CHECK.due("nothing is in it", x.eye(2, 0, 1, 0, 0, 1, 0), -1);
        for (int r : NOT_OF_FOUR) {
            CHECK.due("row " + r, x.eye(r, 0, 1, 0, 0, 1, 0), -1);
        }
        CHECK.says("modulo n (1 to 32) is m");
        int[] ns = {LEAST, -1, 0, 1, 2, 31, 32, 33, MOST};
        for (int n : ns) {
            boolean well = n >= 1 && n <= 32;
            CHECK.due("n " + n, x.eye(0, 0, n, 0, 1, 1, 0), well ? 1 : -1);
            CHECK.due("n " + n + ", m -1", x.eye(0, 0, n, -1, 1, 1, 0), -1);
            CHECK.due("n " + n + ", m n", x.eye(0, 0, n, n, 1, 1, 0), -1);
            CHECK.due("n " + n + ", m n - 1", x.eye(0, 0, n, n - 1, n, 1, 0), !well ? -1 : n <= 3 ? 1 : 0);
        }
        CHECK.says("is c (0 to 15)");
        int[] cs = {LEAST, -1, 0, 1, 14, 15, 16, MOST};
        for (int c : cs) {
            CHECK.due("c " + c, x.eye(0, 0, 1, 0, 1L - c, 1, c), c >= 0 && c <= 15 ? 1 : -1);
        }
    }
}
