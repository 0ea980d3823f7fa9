/** Promises 15 to 18: sheet, lay, mask, first. */
public final class SheetTest {
    public static void main(String[] args) {
        Check check = new Check();
        sheets(check);
        lanes(check);
        masks(check);
        refused(check);
        check.finish("SheetTest");
    }

    private static void sheets(Check check) {
        TraceBench x = new TraceBench();
        int[][] wrong = {{-1, 0, 1}, {4, 0, 1}, {0, -1, 1}, {0, 3, 1}, {0, 0, 65}, {4, 0, -1}, {0, 3, -1}};
        for (int[] w : wrong) {
            check.due("sheet " + java.util.Arrays.toString(w), x.sheet(w[0], w[1], w[2]), -1);
        }
        check.due("size", x.sheet(0, 0, -1), -14);
        check.due("size", x.sheet(3, 2, Integer.MIN_VALUE), -14);
        check.due("still nothing", x.lay(3, 0, 1), -11);
        check.due("empty", x.sheet(0, 0, 0), 1);
        check.due("index", x.lay(0, 0, 1), -12);
        check.due("64", x.sheet(0, 2, 64), 1);
        check.due("the last", x.lay(0, 63, 1), 1);
        check.due("behind it", x.lay(0, 64, 1), -12);
        check.due("ahead", x.lay(0, -1, 1), -12);
        check.due("size keeps what was", x.sheet(0, 1, -5), -14);
        check.due("as before", x.lay(0, 63, 1), 1);
        check.due("no sheet", x.lay(4, 0, 1), -1);
        check.due("no sheet", x.lay(-1, 0, 1), -1);
    }

    /** Whether 50 lies in v to 127, as the lane keeps v. */
    private static int beyond(TraceBench x, int lane, int v) {
        x.sheet(0, lane, 2);
        x.lay(0, 0, v);
        x.lay(0, 1, 127);
        return x.mask(0, 0, 0, lane, 0, 1);
    }

    private static void lanes(Check check) {
        TraceBench x = Check.withSegment(50, 0, 0);
        check.due("byte 306 is 50", beyond(x, 0, 306), 0);
        check.due("byte 307 is 51", beyond(x, 0, 307), 1);
        check.due("byte 255 is -1", beyond(x, 0, 255), 0);
        check.due("short 306", beyond(x, 1, 306), 1);
        check.due("short 65535 is -1", beyond(x, 1, 65535), 0);
        check.due("int 65535", beyond(x, 2, 65535), 1);
        check.due("int below", beyond(x, 2, Integer.MIN_VALUE), 0);
        x.lay(0, 0, 1);
        x.lay(0, 1, 127);
        x.sheet(0, 0, 2);
        check.due("new cells are 0", x.mask(0, 0, 0, 0, 0, 1), 1);
        check.due("new cells are 0", x.mask(0, 0, 0, 0, 1, 1), 0);
    }

    private static void masks(Check check) {
        TraceBench x = Check.withSegment(1, 2, 3, 4, 5);
        x.sheet(1, 1, 7);
        int[] limits = {2, 3, 2, 3, 4, 3};
        for (int i = 0; i < 6; i++) {
            x.lay(1, i, limits[i]);
        }
        check.due("mask", x.mask(0, 0, 1, 1, 0, 3), 2);
        check.due("first", x.first(), 0);
        check.due("mask from 1", x.mask(0, 0, 1, 1, 1, 2), 0);
        check.due("first: none", x.first(), -4);
        check.due("mask from 1, three", x.mask(0, 0, 1, 1, 1, 3), 1);
        check.due("first", x.first(), 3);
        check.due("from -2", x.mask(0, 0, 1, 1, -2, 3), 1);
        check.due("first", x.first(), 0);
        check.due("from 4", x.mask(0, 0, 1, 1, 4, 3), 1);
        check.due("first", x.first(), 4);
        check.due("far behind", x.mask(0, 0, 1, 1, Integer.MAX_VALUE, 3), 0);
        check.due("first: none", x.first(), -4);
        check.due("far ahead", x.mask(0, 0, 1, 1, Integer.MIN_VALUE, 3), 0);
        check.due("no cells", x.mask(0, 0, 1, 1, 0, 0), 0);
        check.due("other trace", x.mask(0, 3, 1, 1, 0, 1), 1);
    }

    private static void refused(Check check) {
        TraceBench x = Check.withSegment(1, 2, 3, 4, 5);
        x.sheet(1, 1, 7);
        check.due("mask", x.mask(0, 0, 1, 1, 1, 1), 1);
        int[][] wrong = {{1, 0, 1, 1, 0, 1}, {-1, 0, 1, 1, 0, 1}, {0, 4, 1, 1, 0, 1}, {0, -1, 1, 1, 0, 1},
            {0, 0, 4, 1, 0, 1}, {0, 0, -1, 1, 0, 1}, {0, 0, 1, 3, 0, 1}, {0, 0, 1, -1, 0, 1}, {0, 0, 1, 1, 0, -1},
            {0, 0, 2, 1, 0, -1}};
        for (int[] w : wrong) {
            check.due("mask " + java.util.Arrays.toString(w), x.mask(w[0], w[1], w[2], w[3], w[4], w[5]), -1);
        }
        check.due("null", x.mask(0, 0, 0, 1, 0, 1), -11);
        check.due("cast", x.mask(0, 0, 1, 0, 0, 1), -13);
        check.due("cast", x.mask(0, 0, 1, 2, 0, 9), -13);
        check.due("index", x.mask(0, 0, 1, 1, 0, 4), -12);
        check.due("index", x.mask(0, 0, 1, 1, 0, Integer.MAX_VALUE), -12);
        check.due("first stays", x.first(), 1);
        x.drop();
        check.due("first stays still", x.first(), 1);
    }
}
