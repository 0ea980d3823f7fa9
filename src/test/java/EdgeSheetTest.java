/** Sheets and promises 15 to 18: each sentence that names an edge, at it and beyond. */
public final class EdgeSheetTest {
    private static final Check CHECK = new Check();
    private static final int LEAST = Integer.MIN_VALUE;
    private static final int MOST = Integer.MAX_VALUE;
    private static final int[] NOT_OF_FOUR = {-1, 4, LEAST, MOST};
    private static final int[] NO_LANES = {-1, 3, LEAST, MOST};

    public static void main(String[] args) {
        atFirst();
        sizes();
        newRows();
        whichIsFirst();
        cells();
        lowestBits();
        leastAndGreatest();
        places();
        cellsThatAreNotThere();
        lanes();
        refusedNumbers();
        firstBeyond();
        firstStays();
        CHECK.finish("EdgeSheetTest");
    }

    private static void atFirst() {
        CHECK.says("SHEETS 0 to 3 are rows of BYTES (lane 0), SHORTS (1), INTS (2) with 0 to 64 CELLS, "
            + "or nothing (at first).");
        for (int k = 0; k < 4; k++) {
            TraceBench x = Check.withSegment(1, 2);
            CHECK.due("lay on nothing", x.lay(k, 0, 0), -11);
            for (int lane = 0; lane < 3; lane++) {
                CHECK.due("mask with nothing", x.mask(0, 0, k, lane, 0, 1), -11);
                CHECK.due("mask with nothing, none", x.mask(0, 0, k, lane, 0, 0), -11);
            }
            x.sheet(k, 1, 2);
            for (int other = 0; other < 4; other++) {
                CHECK.due("only that one is there", x.lay(other, 0, 0), other == k ? 1 : -11);
            }
        }
    }

    private static void sizes() {
        CHECK.says("A SHEET is a new row of CELLS 0: 1. BAD: also n above 64; -10 - 4.");
        int[] sizes = {LEAST, -64, -1, 0, 1, 2, 63, 64, 65, 66, MOST};
        for (int lane = 0; lane < 3; lane++) {
            for (int k = 0; k < 4; k++) {
                for (int n : sizes) {
                    TraceBench x = new TraceBench();
                    CHECK.due("sheet(" + k + ", " + lane + ", " + n + ")", x.sheet(k, lane, n),
                        n < 0 ? -14 : n > 64 ? -1 : 1);
                    boolean made = n >= 0 && n <= 64;
                    CHECK.due("its last cell", x.lay(k, n - 1, 1), !made ? -11 : n == 0 ? -12 : 1);
                    CHECK.due("behind its last cell", x.lay(k, n, 1), made ? -12 : -11);
                }
            }
        }
        TraceBench x = new TraceBench();
        for (int k : NOT_OF_FOUR) {
            CHECK.due("sheet " + k, x.sheet(k, 0, 1), -1);
        }
        for (int lane : NO_LANES) {
            CHECK.due("lane " + lane, x.sheet(0, lane, 1), -1);
        }
    }

    private static void newRows() {
        CHECK.says("A SHEET is a new row of CELLS 0");
        TraceBench x = Check.withSegment(5, 0, -5);
        x.sheet(0, 0, 64);
        for (int i = 0; i < 64; i++) {
            x.lay(0, i, i % 2 == 0 ? -9 : 9);
        }
        CHECK.due("all may be", x.mask(0, 0, 0, 0, 0, 32), 0);
        x.sheet(0, 0, 64);
        CHECK.due("all cells are 0", x.mask(0, 0, 0, 0, 0, 32), 2);
        CHECK.due("the last pair too", x.mask(0, 0, 0, 0, -31, 32), 1);
        for (int i = 0; i < 32; i++) {
            CHECK.due("5 at pair " + i, x.mask(0, 0, 0, 0, -i, i + 1), 1);
            CHECK.due("0 and -5 at the pairs to " + i, x.mask(0, 0, 0, 0, 2 - i, i + 1), i < 2 ? 1 : 2);
        }
        x.sheet(0, 0, 2);
        x.lay(0, 1, 9);
        CHECK.due("a shorter one", x.mask(0, 0, 0, 0, 0, 1), 0);
        x.sheet(0, 0, 4);
        CHECK.due("a longer one has none of it", x.mask(0, 0, 0, 0, 0, 1), 1);
        x.lay(0, 1, 9);
        x.sheet(0, 1, 4);
        CHECK.due("another lane has none of it", x.mask(0, 0, 0, 1, 0, 1), 1);
        x.lay(0, 1, 9);
        x.sheet(1, 1, 4);
        CHECK.due("another sheet changes none of it", x.mask(0, 0, 0, 1, 0, 1), 0);
    }

    private static void whichIsFirst() {
        CHECK.says("the first that fits");
        TraceBench x = Check.withSegment(1, 2);
        CHECK.due("no such sheet, below 0", x.sheet(4, 0, -1), -1);
        CHECK.due("no such lane, below 0", x.sheet(0, 3, -1), -1);
        CHECK.due("no such sheet, no such cell", x.lay(4, 0, 0), -1);
        CHECK.due("nothing, no such cell", x.lay(0, -1, 0), -11);
        CHECK.due("n below 0, nothing", x.mask(0, 0, 0, 0, 0, -1), -1);
        CHECK.due("no such segment, nothing", x.mask(1, 0, 0, 0, 0, 1), -1);
        CHECK.due("no such lane, nothing", x.mask(0, 0, 0, 3, 0, 1), -1);
        x.sheet(0, 0, 2);
        CHECK.due("another lane, no such cell", x.mask(0, 0, 0, 1, 0, 2), -13);
        CHECK.due("n below 0, another lane", x.mask(0, 0, 0, 1, 0, -1), -1);
        CHECK.due("no such lane, no such cell", x.mask(0, 0, 0, -1, 0, 2), -1);
    }

    private static void cells() {
        CHECK.says("CELL i of a SHEET becomes v (its lowest bits): 1. BAD: k; -10 less the FAULT: NULL, INDEX.");
        int[] sizes = {0, 1, 2, 63, 64};
        for (int lane = 0; lane < 3; lane++) {
            for (int n : sizes) {
                TraceBench x = new TraceBench();
                x.sheet(2, lane, n);
                CHECK.due("cell -1 of " + n, x.lay(2, -1, 1), -12);
                CHECK.due("cell 0 of " + n, x.lay(2, 0, 1), n > 0 ? 1 : -12);
                CHECK.due("cell n - 1 of " + n, x.lay(2, n - 1, 1), n > 0 ? 1 : -12);
                CHECK.due("cell n of " + n, x.lay(2, n, 1), -12);
                CHECK.due("cell far behind", x.lay(2, MOST, 1), -12);
                CHECK.due("cell far ahead", x.lay(2, LEAST, 1), -12);
            }
        }
        TraceBench x = new TraceBench();
        for (int k : NOT_OF_FOUR) {
            CHECK.due("sheet " + k, x.lay(k, 0, 1), -1);
        }
        for (int k = 0; k < 4; k++) {
            x.sheet(k, 2, 1);
            CHECK.due("sheet " + k, x.lay(k, 0, 1), 1);
        }
    }

    /** Where v as the lane keeps it stands among the numbers -128 to 127: how many of those are below it. */
    private static int below(int lane, int v) {
        int[] numbers = {-128, -127, -1, 0, 1, 126, 127};
        TraceBench x = Check.withSegment(numbers);
        x.sheet(0, lane, 2);
        x.lay(0, 0, v);
        x.lay(0, 1, lane == 0 ? 127 : 1000);
        int beyond = 0;
        for (int i = 0; i < numbers.length; i++) {
            beyond += x.mask(0, 0, 0, lane, i, 1);
        }
        return beyond;
    }

    private static void lowestBits() {
        CHECK.says("becomes v (its lowest bits)");
        int[][] wanted = {
            // v, what is below it of bytes, shorts, ints
            {0, 3, 3, 3}, {1, 4, 4, 4}, {-1, 2, 2, 2}, {127, 6, 6, 6}, {-128, 0, 0, 0}, {128, 0, 7, 7},
            {-129, 6, 0, 0}, {255, 2, 7, 7}, {256, 3, 7, 7}, {257, 4, 7, 7}, {-256, 3, 0, 0}, {32767, 2, 7, 7},
            {32768, 3, 0, 7}, {-32768, 3, 0, 0}, {-32769, 2, 7, 0}, {65535, 2, 2, 7}, {65536, 3, 3, 7},
            {65537, 4, 4, 7}, {LEAST, 3, 3, 0}, {MOST, 2, 2, 7}};
        for (int[] w : wanted) {
            for (int lane = 0; lane < 3; lane++) {
                CHECK.due(w[0] + " in lane " + lane, below(lane, w[0]), w[1 + lane]);
            }
        }
    }

    private static void leastAndGreatest() {
        CHECK.says("CELLS 2 i, 2 i + 1 are the least, the greatest that may be at place from + i");
        int[][] bounds = {{-128, 127}, {-3, 4}, {0, 0}, {-128, -128}, {127, 127}, {4, 3}, {127, -128}};
        int[] numbers = {-128, -127, -4, -3, -2, -1, 0, 1, 3, 4, 5, 126, 127};
        TraceBench x = Check.withSegment(numbers);
        for (int lane = 0; lane < 3; lane++) {
            for (int[] b : bounds) {
                x.sheet(lane, lane, 2);
                x.lay(lane, 0, b[0]);
                x.lay(lane, 1, b[1]);
                for (int i = 0; i < numbers.length; i += lane + 1) {
                    boolean beyond = numbers[i] < b[0] || numbers[i] > b[1];
                    CHECK.due(numbers[i] + " in " + b[0] + " to " + b[1], x.mask(0, 0, lane, lane, i, 1), beyond ? 1 : 0);
                }
            }
        }
        TraceBench y = Check.withSegment(1, 2, 3);
        y.sheet(3, 2, 6);
        int[] cells = {1, 1, 2, 2, 3, 3};
        for (int i = 0; i < 6; i++) {
            y.lay(3, i, cells[i]);
        }
        CHECK.due("each at its own", y.mask(0, 0, 3, 2, 0, 3), 0);
        CHECK.due("one on", y.mask(0, 0, 3, 2, 1, 3), 2);
        CHECK.due("one back", y.mask(0, 0, 3, 2, -1, 3), 2);
        CHECK.due("two of three", y.mask(0, 0, 3, 2, 1, 1), 1);
        for (int t = 1; t < 3; t++) {
            CHECK.due("0 on another trace", y.mask(0, t, 3, 2, 0, 3), 3);
        }
    }

    private static void places() {
        CHECK.says("(i 0 to n - 1; where there is no such place: nothing)");
        int[] numbers = new int[101];
        java.util.Arrays.fill(numbers, 9);
        TraceBench x = Check.withSegment(numbers);
        x.sheet(0, 1, 64);
        CHECK.due("none", x.mask(0, 0, 0, 1, 0, 0), 0);
        CHECK.due("one", x.mask(0, 0, 0, 1, 0, 1), 1);
        CHECK.due("all 32", x.mask(0, 0, 0, 1, 0, 32), 32);
        int[][] wanted = {{-32, 0}, {-31, 1}, {-1, 31}, {0, 32}, {1, 32}, {69, 32}, {70, 31}, {100, 1}, {101, 0},
            {102, 0}, {LEAST, 0}, {MOST, 0}, {MOST - 31, 0}, {LEAST + 31, 0}};
        for (int[] w : wanted) {
            CHECK.due("32 from " + w[0], x.mask(0, 0, 0, 1, w[0], 32), w[1]);
        }
        TraceBench one = Check.withOnePlace(9);
        one.sheet(0, 1, 8);
        CHECK.due("one place", one.mask(0, 0, 0, 1, 0, 4), 1);
        CHECK.due("one place, at the last pair", one.mask(0, 0, 0, 1, -3, 4), 1);
        CHECK.due("one place, behind it", one.mask(0, 0, 0, 1, 1, 4), 0);
        CHECK.due("one place, ahead of it", one.mask(0, 0, 0, 1, -4, 4), 0);
    }

    private static void cellsThatAreNotThere() {
        CHECK.says("INDEX (at the first CELL that is not there)");
        TraceBench x = Check.withSegment(new int[80]);
        for (int cells = 0; cells <= 64; cells++) {
            x.sheet(0, 0, cells);
            CHECK.due("as many as " + cells + " cells have", x.mask(0, 0, 0, 0, 0, cells / 2), 0);
            CHECK.due("one more than " + cells + " cells have", x.mask(0, 0, 0, 0, 0, cells / 2 + 1), -12);
        }
        CHECK.due("33 of 64 cells", x.mask(0, 0, 0, 0, 0, 33), -12);
        CHECK.due("far more", x.mask(0, 0, 0, 0, 0, MOST), -12);
        CHECK.due("far more, far on", x.mask(0, 0, 0, 0, MOST, MOST), -12);
        CHECK.due("twice that is 0", x.mask(0, 0, 0, 0, 0, 1 << 30), -12);
    }

    private static void lanes() {
        CHECK.says("-10 less the FAULT: NULL, CAST, INDEX");
        TraceBench x = Check.withSegment(1, 2, 3);
        for (int lane = 0; lane < 3; lane++) {
            x.sheet(1, lane, 2);
            for (int taken = 0; taken < 3; taken++) {
                CHECK.due("lane " + lane + " taken as " + taken, x.mask(0, 1, 1, taken, 0, 1), taken == lane ? 0 : -13);
                CHECK.due("none of lane " + lane + " taken as " + taken, x.mask(0, 1, 1, taken, 0, 0),
                    taken == lane ? 0 : -13);
            }
            CHECK.due("one too many", x.mask(0, 1, 1, lane, 0, 2), -12);
        }
        CHECK.says("A FAULT is what the machine finds: 1 NULL (nothing), 2 INDEX, 3 CAST (another lane), 4 SIZE (below 0).");
        CHECK.due("nothing", x.mask(0, 1, 0, 0, 0, 1), -11);
        CHECK.due("below 0", x.sheet(0, 0, -1), -14);
        x.sheet(0, 0, 0);
        CHECK.due("no cells are not nothing", x.mask(0, 1, 0, 0, 0, 0), 0);
        CHECK.due("no cells", x.mask(0, 1, 0, 0, 0, 1), -12);
        CHECK.due("no cells of another lane", x.mask(0, 1, 0, 1, 0, 0), -13);
    }

    private static void refusedNumbers() {
        CHECK.says("BAD: k, trace, sheet, lane, n below 0.");
        TraceBench x = Check.withSegment(1, 2, 3);
        for (int k = 0; k < 4; k++) {
            x.sheet(k, 0, 2);
            CHECK.due("sheet " + k, x.mask(0, 2, k, 0, 0, 1), 0);
            CHECK.due("trace " + k, x.mask(0, k, k, 0, 0, 1), k == 0 ? 1 : 0);
        }
        for (int wrong : NOT_OF_FOUR) {
            CHECK.due("trace " + wrong, x.mask(0, wrong, 0, 0, 0, 1), -1);
            CHECK.due("sheet " + wrong, x.mask(0, 0, wrong, 0, 0, 1), -1);
        }
        for (int lane : NO_LANES) {
            CHECK.due("lane " + lane, x.mask(0, 0, 0, lane, 0, 1), -1);
        }
        int[] noSegments = {-1, 1, 7, 8, LEAST, MOST};
        for (int k : noSegments) {
            CHECK.due("segment " + k, x.mask(k, 0, 0, 0, 0, 1), -1);
        }
        int[] below = {-1, -2, LEAST};
        for (int n : below) {
            CHECK.due("n " + n, x.mask(0, 0, 0, 0, 0, n), -1);
        }
        CHECK.due("of no segment", new TraceBench().mask(0, 0, 0, 0, 0, 0), -1);
    }

    private static void firstBeyond() {
        CHECK.says("The first place that was beyond in the latest mask() that was not refused. NONE.");
        CHECK.due("without one", new TraceBench().first(), -4);
        TraceBench x = Check.withSegment(0, 0, 9, 0, 9);
        x.sheet(0, 0, 10);
        CHECK.due("two beyond", x.mask(0, 0, 0, 0, 0, 5), 2);
        CHECK.due("its first", x.first(), 2);
        CHECK.due("the first place of all", x.mask(0, 0, 0, 0, 2, 1), 1);
        CHECK.due("is told from the segment's beginning", x.first(), 2);
        CHECK.due("only the last", x.mask(0, 0, 0, 0, 3, 5), 1);
        CHECK.due("its first", x.first(), 4);
        CHECK.due("from ahead of all", x.mask(0, 0, 0, 0, -2, 5), 1);
        CHECK.due("its first", x.first(), 2);
        CHECK.due("none beyond", x.mask(0, 0, 0, 0, 0, 2), 0);
        CHECK.due("none", x.first(), -4);
        x.mask(0, 0, 0, 0, 0, 5);
        CHECK.due("no place at all", x.mask(0, 0, 0, 0, 0, 0), 0);
        CHECK.due("none", x.first(), -4);
        TraceBench y = Check.withSegment(9, 0);
        y.sheet(0, 0, 2);
        y.mask(0, 0, 0, 0, 0, 1);
        CHECK.due("place 0", y.first(), 0);
    }

    private static void firstStays() {
        CHECK.says("in the latest mask() that was not refused");
        TraceBench x = Check.withSegment(0, 9, 9);
        x.sheet(0, 0, 6);
        x.mask(0, 0, 0, 0, 0, 3);
        int[][] refused = {{1, 0, 0, 0, 0, 1}, {0, 4, 0, 0, 0, 1}, {0, 0, 4, 0, 0, 1}, {0, 0, 0, 3, 0, 1},
            {0, 0, 0, 0, 0, -1}, {0, 0, 1, 0, 0, 1}, {0, 0, 0, 1, 0, 1}, {0, 0, 0, 0, 0, 4}, {0, 0, 0, 0, 2, 4}};
        for (int[] r : refused) {
            CHECK.due("refused", x.mask(r[0], r[1], r[2], r[3], r[4], r[5]) < 0 ? 1 : 0, 1);
            CHECK.due("first() behind it", x.first(), 1);
        }
        x.sheet(0, 0, 0);
        x.drop();
        CHECK.due("its sheet and its segment went", x.first(), 1);
    }
}
