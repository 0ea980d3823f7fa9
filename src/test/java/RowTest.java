/** Promises 19 to 25: row, reckon, place, about, total, turns, eye. */
public final class RowTest {
    public static void main(String[] args) {
        Check check = new Check();
        rows(check);
        two(check);
        one(check);
        refused(check);
        measures(check);
        turns(check);
        eyes(check);
        check.finish("RowTest");
    }

    private static void is(Check check, TraceBench x, int r, long... wanted) {
        check.due("places of " + r, x.about(r, 0), wanted.length);
        for (int i = 0; i < wanted.length; i++) {
            check.due("place " + i + " of " + r, x.place(r, i), wanted[i]);
        }
    }

    private static void rows(Check check) {
        TraceBench x = Check.withSegment(new int[] {1, -2, 3}, new int[] {4, 5, -6});
        check.due("row", x.row(0, 0, 0), 3);
        check.due("row", x.row(3, 0, 1), 3);
        is(check, x, 0, 1, -2, 3);
        is(check, x, 3, 4, 5, -6);
        int[][] wrong = {{-1, 0, 0}, {4, 0, 0}, {0, 1, 0}, {0, -1, 0}, {0, 0, 4}, {0, 0, -1}};
        for (int[] w : wrong) {
            check.due("row " + java.util.Arrays.toString(w), x.row(w[0], w[1], w[2]), -1);
        }
        x.drop();
        is(check, x, 0, 1, -2, 3);
        check.due("place -1", x.place(0, -1), 0);
        check.due("place 3", x.place(0, 3), 0);
        check.due("place of no row", x.place(4, 0), 0);
        check.due("place of no row", x.place(-1, 0), 0);
        check.due("place of nothing", x.place(1, 0), 0);
    }

    private static void two(Check check) {
        TraceBench x = Check.withSegment(new int[] {1, -2, 3, 4}, new int[] {5, 6, -7, 8});
        x.row(0, 0, 0);
        x.row(1, 0, 1);
        check.due("add", x.reckon(2, 0, 0, 1, 0), 4);
        is(check, x, 2, 6, 4, -4, 12);
        check.due("take", x.reckon(2, 1, 0, 1, 0), 4);
        is(check, x, 2, -4, -8, 10, -4);
        check.due("times", x.reckon(2, 2, 0, 1, 0), 4);
        is(check, x, 2, 5, -12, -21, 32);
        check.due("gaps", x.reckon(3, 5, 0, 0, 0), 4);
        check.due("gaps in y", x.reckon(2, 0, 1, 3, 0), 4);
        is(check, x, 2, 6, 0, -4, 12);
        check.due("one gap", x.about(2, 1), 1);
        check.due("gaps in x, itself", x.reckon(3, 1, 3, 3, 0), 4);
        is(check, x, 3, 0, 0, 0, 0);
        check.due("at 1", x.about(3, 4), 1);
        check.due("itself as y", x.reckon(1, 1, 0, 1, 0), 4);
        is(check, x, 1, -4, -8, 10, -4);

        shorter(check);
    }

    private static void shorter(Check check) {
        TraceBench x = new TraceBench();
        Check.trigger(x, "rise 0 5");
        x.keep(2, 0);
        x.arm();
        Check.come(x, 1, 9, 1, 2, 3, 8);
        check.due("two", x.row(0, 0, 0), 2);
        check.due("three", x.row(1, 1, 0), 3);
        check.due("the shorter", x.reckon(2, 0, 0, 1, 0), 2);
        is(check, x, 2, 3, 12);
        check.due("the shorter", x.reckon(2, 0, 1, 0, 0), 2);
        check.due("the longer becomes short", x.reckon(1, 0, 1, 0, 0), 2);
        is(check, x, 1, 3, 12);
    }

    private static void one(Check check) {
        TraceBench x = Check.withSegment(1, 2, -3, 4, 5, -6, 7);
        x.row(0, 0, 0);
        check.due("sums of 1", x.reckon(1, 3, 0, 9, 1), 7);
        is(check, x, 1, 1, 2, -3, 4, 5, -6, 7);
        check.due("sums of 3", x.reckon(1, 3, 0, 9, 3), 7);
        is(check, x, 1, 0, 0, 0, 3, 6, 3, 6);
        check.due("two gaps", x.about(1, 1), 2);
        check.due("sums of 64", x.reckon(1, 3, 0, 9, 64), 7);
        check.due("all gaps", x.about(1, 1), 7);
        check.due("steps of 2", x.reckon(1, 4, 0, -9, 2), 7);
        is(check, x, 1, 0, 0, -4, 2, 8, -10, 2);
        check.due("two gaps", x.about(1, 1), 2);
        check.due("cut below 2", x.reckon(2, 5, 0, 9, 2), 7);
        is(check, x, 2, 0, 2, 0, 4, 5, 0, 7);
        check.due("three gaps", x.about(2, 1), 3);
        check.due("fill", x.reckon(3, 6, 2, 9, 0), 7);
        is(check, x, 3, 0, 2, 2, 4, 5, 5, 7);
        check.due("one gap stays", x.about(3, 1), 1);
        check.due("sums over gaps", x.reckon(3, 3, 2, 9, 2), 7);
        is(check, x, 3, 0, 0, 0, 0, 9, 0, 0);
        check.due("gaps", x.about(3, 1), 6);
        check.due("steps over gaps", x.reckon(3, 4, 2, 9, 2), 7);
        is(check, x, 3, 0, 0, 0, 2, 0, 0, 2);
        check.due("gaps", x.about(3, 1), 5);
        check.due("times -3", x.reckon(3, 7, 2, 9, -3), 7);
        is(check, x, 3, 0, -6, 0, -12, -15, 0, -21);
        check.due("gaps", x.about(3, 1), 3);
        check.due("cut with gaps", x.reckon(3, 5, 3, 9, -14), 7);
        is(check, x, 3, 0, -6, 0, -12, 0, 0, 0);
        check.due("gaps", x.about(3, 1), 5);

        check.due("sums, itself", x.reckon(0, 3, 0, 9, 2), 7);
        is(check, x, 0, 0, 3, -1, 1, 9, -1, 1);
        check.due("steps, itself", x.reckon(0, 4, 0, 9, 1), 7);
        is(check, x, 0, 0, 0, -4, 2, 8, -10, 2);
        check.due("fill, itself", x.reckon(2, 6, 2, 9, 0), 7);
        is(check, x, 2, 0, 2, 2, 4, 5, 5, 7);
        wraps(check);
    }

    private static void wraps(Check check) {
        TraceBench x = Check.withSegment(-128, 127);
        x.row(0, 0, 0);
        x.row(1, 0, 0);
        for (int i = 0; i < 8; i++) {
            x.reckon(1, 2, 1, 0, 0);
        }
        check.due("-128 to the ninth", x.place(1, 0), Long.MIN_VALUE);
        x.reckon(2, 7, 1, 0, -1);
        check.due("wrapped", x.place(2, 0), Long.MIN_VALUE);
        x.reckon(2, 0, 1, 0, 0);
        check.due("wrapped", x.place(2, 0), Long.MAX_VALUE - 127);
        x.reckon(2, 1, 0, 1, 0);
        check.due("wrapped", x.place(2, 0), Long.MIN_VALUE - 128);
        check.due("total wraps", x.total(1), Long.MIN_VALUE + x.place(1, 1));
    }

    private static void refused(Check check) {
        TraceBench x = Check.withSegment(1, 2, 3);
        x.row(0, 0, 0);
        int[][] wrong = {{4, 0, 0, 0, 0}, {-1, 0, 0, 0, 0}, {1, 8, 0, 0, 0}, {1, -1, 0, 0, 0}, {1, 0, 4, 0, 0},
            {1, 0, -1, 0, 0}, {1, 0, 2, 0, 0}, {1, 0, 0, 2, 0}, {1, 2, 0, 4, 0}, {1, 1, 0, -1, 0}, {1, 3, 2, 0, 1},
            {1, 3, 0, 0, 0}, {1, 3, 0, 0, 65}, {1, 4, 0, 0, 0}, {1, 4, 0, 0, 65}, {1, 0, 0, 0, 1001},
            {1, 1, 0, 0, -1001}, {1, 2, 0, 0, 1001}, {1, 5, 0, 0, -1001}, {1, 6, 0, 0, 1001}, {1, 7, 0, 0, 1001}};
        for (int[] w : wrong) {
            check.due("reckon " + java.util.Arrays.toString(w), x.reckon(w[0], w[1], w[2], w[3], w[4]), -1);
        }
        check.due("row 1 is still nothing", x.about(1, 0), -1);
        check.due("n 1000", x.reckon(1, 0, 0, 0, 1000), 3);
        check.due("n -1000", x.reckon(1, 7, 0, 0, -1000), 3);
        is(check, x, 1, -1000, -2000, -3000);
        check.due("n 64", x.reckon(1, 4, 0, 0, 64), 3);
    }

    private static void measures(Check check) {
        TraceBench x = Check.withSegment(3, -5, 9, -5, 9, 0);
        x.row(0, 0, 0);
        int[] about = {6, 0, 1, 2, -4};
        for (int i = 0; i < 5; i++) {
            check.due("about 0 " + i, x.about(0, i), about[i]);
        }
        check.due("about what", x.about(0, 5), -1);
        check.due("about what", x.about(0, -1), -1);
        check.due("about nothing", x.about(1, 0), -1);
        check.due("about no row", x.about(4, 0), -1);
        check.due("about no row", x.about(-1, 0), -1);
        check.due("total", x.total(0), 11);
        TraceBench y = Check.withSegment(9, 9, 8);
        y.row(0, 0, 0);
        check.due("the greatest is the first", y.about(0, 3), 0);
        y.reckon(0, 7, 0, 0, -1);
        check.due("the least is the first", y.about(0, 2), 0);
        check.due("total of nothing", x.total(1), 0);
        check.due("total of no row", x.total(4), 0);
        check.due("total of no row", x.total(-1), 0);
        x.reckon(1, 5, 0, 0, 0);
        int[] cut = {6, 2, 5, 2, 1};
        for (int i = 0; i < 5; i++) {
            check.due("about 1 " + i, x.about(1, i), cut[i]);
        }
        check.due("total", x.total(1), 21);
        x.reckon(1, 5, 0, 0, 1000);
        int[] none = {6, 6, -4, -4, 0};
        for (int i = 0; i < 5; i++) {
            check.due("about gaps " + i, x.about(1, i), none[i]);
        }
        check.due("total of gaps", x.total(1), 0);
    }

    private static void turns(Check check) {
        TraceBench x = Check.withSegment(5, 0, 5, 5, 0, 0, 6, 0, 5, 9, 9, 1, 5, 0);
        x.row(0, 0, 0);
        int[] wanted = {3, 2, 4, 10, 6};
        for (int i = 0; i < 5; i++) {
            check.due("turns " + i, x.turns(0, 5, i), wanted[i]);
        }
        check.due("one crossing", x.turns(0, 9, 0), 0);
        for (int i = 0; i < 5; i++) {
            check.due("no turns " + i, x.turns(0, 9, i), 0);
            check.due("far above", x.turns(0, Long.MAX_VALUE, i), 0);
            check.due("far below", x.turns(0, Long.MIN_VALUE, i), 0);
        }
        check.due("what", x.turns(0, 5, 5), -1);
        check.due("what", x.turns(0, 5, -1), -1);
        check.due("nothing", x.turns(1, 5, 0), -1);
        check.due("no row", x.turns(4, 5, 0), -1);
        check.due("no row", x.turns(-1, 5, 0), -1);

        // Cut below 1, only the one at place 11 is left to come from.
        x.reckon(1, 5, 0, 0, 1);
        check.due("gaps", x.turns(1, 5, 0), 0);
        // A gap where 7 was breaks one turn of three.
        TraceBench y = Check.withSegment(-7, 5, 0, 5, 0, 5, -7, 5, 0, 5);
        y.row(0, 0, 0);
        check.due("all", y.turns(0, 5, 0), 4);
        y.reckon(0, 5, 0, 0, 0);
        check.due("without the gap's", y.turns(0, 5, 0), 1);
        check.due("lengths", y.turns(0, 5, 3), 2);
        TraceBench z = Check.withSegment(0, 5, -7, 0, 5, 0, 5);
        z.row(0, 0, 0);
        z.reckon(0, 5, 0, 0, 0);
        check.due("a gap between", z.turns(0, 5, 0), 1);
        check.due("its length", z.turns(0, 5, 3), 2);
        check.due("its highs", z.turns(0, 5, 4), 1);
    }

    private static void eyes(Check check) {
        TraceBench x = Check.withSegment(0, 1, 2, 3, 4, 5, 6, 7, 8, 9);
        x.row(0, 0, 0);
        check.due("all of 2 to 4", x.eye(0, 0, 1, 0, 2, 3, 0), 3);
        check.due("every third of 0 to 9", x.eye(0, 0, 3, 0, 0, 10, 0), 4);
        check.due("every third behind 1", x.eye(0, 1, 3, 2, 0, 10, 0), 3);
        check.due("places 3, 6, 9 alone", x.eye(0, 1, 3, 2, 3, 3, 0), 1);
        check.due("place 3 alone", x.eye(0, 1, 3, 2, 3, 1, 0), 1);
        check.due("band 4", x.eye(0, 0, 1, 0, 0, 2, 4), 2);
        check.due("rounded down", x.eye(0, 0, 1, 0, 5, 10, 0), 5);
        check.due("the greatest m", x.eye(0, 0, 3, 2, 0, 10, 0), 3);
        check.due("from behind", x.eye(0, 10, 1, 0, 0, 10, 0), 0);
        check.due("from far behind", x.eye(0, Integer.MAX_VALUE, 32, 31, 0, 10, 0), 0);
        check.due("high 1000", x.eye(0, 0, 1, 0, -15000, 1000, 15), 10);
        check.due("low far", x.eye(0, 0, 1, 0, Long.MIN_VALUE, 1, 0), 0);
        check.due("low far", x.eye(0, 0, 1, 0, Long.MAX_VALUE, 1, 0), 0);
        int[][] wrong = {{1, 0, 1, 0, 1, 0}, {4, 0, 1, 0, 1, 0}, {-1, 0, 1, 0, 1, 0}, {0, -1, 1, 0, 1, 0},
            {0, 0, 0, 0, 1, 0}, {0, 0, 33, 0, 1, 0}, {0, 0, 1, 0, 0, 0}, {0, 0, 1, 0, 1001, 0}, {0, 0, 1, 0, 1, -1},
            {0, 0, 1, 0, 1, 16}, {0, 0, 3, 3, 10, 0}, {0, 0, 3, -1, 10, 0}, {0, 0, 1, 1, 1, 0},
            {0, 0, 32, 32, 1, 0}, {0, 0, 3, Integer.MAX_VALUE, 1, 0}, {0, 0, 3, Integer.MIN_VALUE, 1, 0},
            {0, 10, 3, 3, 1, 0}};
        for (int[] w : wrong) {
            check.due("eye " + java.util.Arrays.toString(w), x.eye(w[0], w[1], w[2], w[3], 0, w[4], w[5]), -1);
        }
        x.reckon(1, 5, 0, 0, 5);
        check.due("gaps do not count", x.eye(1, 0, 1, 0, 0, 10, 0), 5);
        check.due("gaps are no 0", x.eye(1, 0, 1, 0, 0, 1, 0), 0);
    }
}
