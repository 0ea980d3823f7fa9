/** Promises 6 to 14: keep, arm, come, play, sample, told, segment, at, drop. */
public final class ScopeTest {
    public static void main(String[] args) {
        Check check = new Check();
        keepAndArm(check);
        ring(check);
        events(check);
        highs(check);
        stages(check);
        within(check);
        segments(check);
        held(check);
        played(check);
        check.finish("ScopeTest");
    }

    private static void keepAndArm(Check check) {
        TraceBench x = new TraceBench();
        int[][] wrong = {{-1, 0}, {0, -1}, {101, 0}, {0, 101}};
        for (int[] w : wrong) {
            check.due("keep " + w[0] + " " + w[1], x.keep(w[0], w[1]), -1);
        }
        check.due("keep 100 100", x.keep(100, 100), 1);
        check.due("before", x.told(6), 100);
        check.due("after", x.told(7), 100);
        check.due("keep 0 1", x.keep(0, 1), 1);
        check.due("arm without", x.arm(), -2);
        Check.trigger(x, "rise 0 5");
        check.due("arm", x.arm(), 1);
        check.due("keep armed", x.keep(1, 1), -2);
        check.due("keep armed, wrong", x.keep(1, 101), -1);
        check.due("will begin at", x.told(3), 0);
        check.due("none yet", Check.come(x, 0, 9), 0);
        check.due("fired", x.told(0), 2);
        check.due("keep fired", x.keep(1, 1), -2);
        for (int i = 1; i <= 3; i++) {
            check.due("fired told " + i, x.told(i), -4);
        }
        check.due("arm anew", x.arm(), 1);
        check.due("the segment is not kept", Check.come(x, 9, 9), 0);
        check.due("armed", x.told(0), 1);
        check.due("begins at", x.told(3), 2);
        check.due("told -1", x.told(-1), -1);
        check.due("told 10", x.told(10), -1);
        check.due("samples", x.told(4), 4);
    }

    private static void ring(Check check) {
        TraceBench x = new TraceBench();
        x.come(Check.sample(-128, 127, -1, 1) << 32 | Check.sample(1, 2, 3, 4));
        int[] wanted = {-128, 127, -1, 1};
        for (int t = 0; t < 4; t++) {
            check.due("sample 0 on " + t, x.sample(0, t), wanted[t]);
            check.due("sample 1 on " + t, x.sample(1, t), t + 1);
        }
        check.due("no trace", x.sample(0, 4), 1000);
        check.due("no trace", x.sample(0, -1), 1000);
        check.due("no sample", x.sample(2, 0), 1000);
        check.due("no sample", x.sample(-1, 0), 1000);
        for (int i = 0; i < 127; i++) {
            Check.come(x, i, -i);
        }
        check.due("256 are there", x.sample(0, 0), -128);
        Check.come(x, 7, 8);
        check.due("the first went", x.sample(0, 0), 1000);
        check.due("the second went", x.sample(1, 0), 1000);
        check.due("the third is there", x.sample(2, 0), 0);
        check.due("the last is there", x.sample(257, 0), 8);
        check.due("no more", x.sample(258, 0), 1000);
        check.due("samples", x.told(4), 258);
    }

    /** Of an even number of samples: the one at which the trigger fires first, or -1. */
    private static int fires(String text, int... numbers) {
        return fires(text, numbers, new int[numbers.length]);
    }

    private static int fires(String text, int[] first, int[] second) {
        TraceBench x = new TraceBench();
        Check.trigger(x, text);
        x.keep(0, 0);
        x.arm();
        Check.come(x, first, second);
        return x.segment(0, 0) < 0 ? -1 : x.segment(0, 2);
    }

    private static void events(Check check) {
        check.due("rise", fires("rise 0 5", 4, 4, 5, 6), 2);
        check.due("rise, not at the first", fires("rise 0 5", 5, 5, 4, 6), 3);
        check.due("no rise", fires("rise 0 5", 5, 6, 4, 3), -1);
        check.due("fall", fires("fall 0 5", 4, 5, 6, 4), 3);
        check.due("no fall to it", fires("fall 0 5", 6, 5, 5, 6), -1);
        check.due("fall at the level below 0", fires("fall 0 -128", -128, 127, -128, -128), -1);
        check.due("in", fires("in 0 -2 2", 3, -3, 2, 1), 2);
        check.due("in from above", fires("in 0 -2 2", 0, 3, 3, -2), 3);
        check.due("not in from in", fires("in 0 -2 2", 0, 2, -2, 1), -1);
        check.due("out", fires("out 0 -2 2", 3, 2, -2, -3), 3);
        check.due("out above", fires("out 0 -2 2", 3, -2, 3, 3), 2);
        check.due("equal", fires("equal 0 1", new int[] {3, 4, 5, 6}, new int[] {3, 3, 5, 6}), 2);
        check.due("equal, still", fires("equal 0 1", new int[] {3, 4, 5, 6}, new int[] {3, 4, 5, 6}), -1);
        check.due("equal of one", fires("equal 1 1", 1, 2, 3, 4), -1);
    }

    private static void highs(Check check) {
        check.due("wide of 2", fires("wide 0 5 2", 0, 5, 5, 0), 3);
        check.due("not wide", fires("wide 0 5 3", 0, 5, 5, 0), -1);
        check.due("wide without a rise", fires("wide 0 5 2", 5, 5, 5, 0), -1);
        check.due("wide behind that", fires("wide 0 5 2", 5, 0, 6, 7, 4, 4), 4);
        check.due("thin", fires("thin 0 5 3", 0, 5, 5, 0), 3);
        check.due("not thin", fires("thin 0 5 2", 0, 5, 5, 0), -1);
        check.due("thin without a rise", fires("thin 0 5 9", 5, 5, 5, 0), -1);
        check.due("thin, the second", fires("thin 0 5 2", 0, 5, 5, 0, 9, 0), 5);
        check.due("only at a fall", fires("2 * thin 0 5 9", 0, 5, 0, 0, 0, 0), -1);
        check.due("runt", fires("runt 0 2 5", 0, 2, 4, 1), 3);
        check.due("no runt", fires("runt 0 2 5", 0, 5, 2, 1), -1);
        check.due("no runt, at the end", fires("runt 0 2 5", 0, 2, 5, 1), -1);
        check.due("no runt without a rise", fires("runt 0 2 5", 2, 2, 2, 1), -1);
        check.due("a runt behind a high one", fires("runt 0 2 5", 0, 9, 0, 3, 0, 0), 4);
        check.due("a high that began before its stage", fires("rise 0 9; thin 0 5 9", 0, 5, 9, 0), 3);
        TraceBench x = new TraceBench();
        Check.trigger(x, "thin 0 5 9");
        x.keep(0, 0);
        x.arm();
        Check.come(x, 0, 5);
        x.arm();
        check.due("a rise ahead of arm() begins no high", Check.come(x, 5, 0), 0);
        int[] plenty = new int[302];
        java.util.Arrays.fill(plenty, 1, 300, 50);
        check.due("a high longer than the ring", fires("wide 0 5 200", plenty), 300);
        plenty[1] = 100;
        check.due("its top left the ring", fires("runt 0 5 100", plenty), -1);
        plenty[0] = 50;
        check.due("its beginning left the ring", fires("wide 0 5 200", plenty), -1);
    }

    private static void stages(Check check) {
        TraceBench x = new TraceBench();
        Check.trigger(x, "3 * rise 0 5; fall 0 5; 2 * fall 0 0");
        x.keep(8, 2);
        x.arm();
        Check.come(x, 0, 5, 0, 5);
        check.due("stage", x.told(1), 0);
        check.due("how often", x.told(2), 2);
        check.due("began", x.told(3), 0);
        Check.come(x, 0, 5);
        check.due("next stage", x.told(1), 1);
        check.due("how often then", x.told(2), 0);
        check.due("began then", x.told(3), 5);
        Check.come(x, -1, -1);
        check.due("the third looks from the next sample on", x.told(1), 2);
        check.due("how often", x.told(2), 0);
        Check.come(x, 0, -1);
        check.due("how often", x.told(2), 1);
        check.due("not yet", Check.come(x, 0, -1), 0);
        check.due("fired", x.told(0), 2);
        check.due("not yet", Check.come(x, 1, 1), 1);
        check.due("armed again", x.told(0), 1);
        check.due("fired at", x.segment(0, 2), 11);
        check.due("from", x.segment(0, 0), 3);
        check.due("how many", x.segment(0, 1), 11);
    }

    private static void within(Check check) {
        TraceBench x = new TraceBench();
        Check.trigger(x, "rise 0 5; fall 0 5 within 3");
        x.keep(0, 0);
        x.arm();
        Check.come(x, 0, 5, 5, 5);
        check.due("stage", x.told(1), 1);
        Check.come(x, 0, 0);
        check.due("the fall at the third comes too late", x.told(1), 0);
        check.due("begun again", x.told(9), 1);
        check.due("at", x.told(3), 4);
        Check.come(x, 5, 5);
        check.due("stage", x.told(3), 6);
        check.due("fires in time", Check.come(x, 0, 0), 1);
        check.due("counted anew since it armed itself", x.told(9), 0);
        check.due("told 3", x.told(3), 9);

        TraceBench y = new TraceBench();
        Check.trigger(y, "2 * rise 0 5 within 4");
        y.keep(0, 0);
        y.arm();
        Check.come(y, 0, 5, 5, 0, 5, 5);
        check.due("what happens at that sample is not looked at", y.told(2), 0);
        check.due("begun again", y.told(9), 1);
        check.due("at", y.told(3), 4);
        Check.come(y, 0, 5);
        check.due("one more", y.told(2), 1);
        Check.come(y, 0, 5);
        check.due("again", y.told(9), 2);
        check.due("at", y.told(3), 8);
        check.due("arm", y.arm(), 1);
        check.due("since arm()", y.told(9), 0);
        check.due("will begin", y.told(3), 10);

        check.due("within 1 of stage 0 never", fires("rise 0 5 within 1", 0, 5, 0, 5, 0, 5), -1);
        check.due("a high goes on over a new beginning", fires("wide 0 5 4 within 4", 0, 5, 5, 5, 5, 0), 5);
        check.due("a rise at it begins a high", fires("wide 0 5 1 within 2", 0, 0, 5, 0), 3);
    }

    private static void segments(Check check) {
        TraceBench x = new TraceBench();
        Check.trigger(x, "rise 0 5");
        x.keep(3, 0);
        Check.come(x, 0, 1);
        x.arm();
        check.due("kept at once", Check.come(x, 2, 9), 1);
        check.due("not ahead of arm()", x.segment(0, 0), 2);
        check.due("how many", x.segment(0, 1), 2);
        check.due("fired", x.segment(0, 2), 3);
        Check.come(x, 2, 9);
        check.due("nor of the arming by itself", x.segment(1, 0), 4);
        Check.come(x, 1, 1, 1, 1, 1, 8);
        check.due("three ahead", x.segment(2, 0), 8);
        check.due("four", x.segment(2, 1), 4);
        check.due("at 3", x.at(2, 0, 3), 8);
        check.due("at 0", x.at(2, 0, 0), 1);
        check.due("other trace", x.at(2, 1, 0), 0);
        check.due("no place", x.at(2, 0, 4), 1000);
        check.due("no place", x.at(2, 0, -1), 1000);
        check.due("no trace", x.at(2, 4, 0), 1000);
        check.due("no trace", x.at(2, -1, 0), 1000);
        check.due("no segment", x.at(3, 0, 0), 1000);
        check.due("no segment", x.at(-1, 0, 0), 1000);
        check.due("no segment", x.segment(3, 0), -1);
        check.due("no segment", x.segment(-1, 0), -1);
        check.due("no what", x.segment(0, 3), -1);
        check.due("no what", x.segment(0, -1), -1);
        check.due("drop", x.drop(), 2);
        check.due("it is gone", x.segment(2, 0), -1);
        check.due("segments", x.told(5), 2);
        check.due("still armed", x.told(0), 1);

        TraceBench y = new TraceBench();
        Check.trigger(y, "rise 0 5");
        y.keep(100, 100);
        y.arm();
        int[] numbers = new int[304];
        for (int i = 0; i < numbers.length; i++) {
            numbers[i] = i < 200 ? -(i % 100) : i % 100 + 6;
        }
        check.due("a long one", Check.come(y, numbers), 1);
        check.due("its first", y.segment(0, 0), 100);
        check.due("its length", y.segment(0, 1), 201);
        check.due("its last", y.at(0, 0, 200), 6);
        check.due("its first number", y.at(0, 0, 1), -1);
    }

    private static void held(Check check) {
        TraceBench x = new TraceBench();
        Check.trigger(x, "rise 0 5");
        x.keep(0, 0);
        x.arm();
        for (int i = 1; i <= 8; i++) {
            check.due("segment " + i, Check.come(x, 0, 5), i);
        }
        check.due("held", x.told(0), 3);
        check.due("no stage", x.told(1), -4);
        check.due("no more", Check.come(x, 0, 5), 8);
        check.due("arm full", x.arm(), -3);
        check.due("keep", x.keep(1, 0), 1);
        check.due("drop", x.drop(), 7);
        check.due("held it stays", x.told(0), 3);
        check.due("so nothing comes", Check.come(x, 0, 5), 7);
        check.due("arm", x.arm(), 1);
        check.due("the eighth", Check.come(x, 0, 5), 8);
        check.due("held", x.told(0), 3);
        check.due("its length", x.segment(7, 1), 2);
        check.due("a new trigger", Check.trigger(x, "fall 0 5"), 1);
        check.due("neither", x.told(0), 0);
        for (int i = 7; i >= 0; i--) {
            check.due("drop", x.drop(), i);
        }
        check.due("none to drop", x.drop(), -4);
    }

    private static void played(Check check) {
        check.due("play from a row of nothing", new TraceBench().play(0, 0, 0, 0), -1);
        TraceBench x = Check.withSegment(-7, 3, 100, -100, 5);
        check.due("row", x.row(0, 0, 0), 5);
        check.due("times 3", x.reckon(1, 7, 0, 0, 3), 5);
        check.due("cut", x.reckon(1, 5, 1, 0, 0), 5);
        int came = x.told(4);
        int[][] wrong = {{-1, 0, 0, 1}, {4, 0, 0, 1}, {1, 4, 0, 1}, {1, -1, 0, 1}, {1, 0, -1, 1}, {1, 0, 5, 1},
            {1, 0, 0, 6}, {1, 0, 4, 2}, {1, 0, 0, -1}, {1, 0, 0, 65}, {2, 0, 0, 1}, {1, 0, Integer.MAX_VALUE, 64},
            {1, 0, Integer.MIN_VALUE, 64}, {2, 0, 0, 0}, {1, 0, 6, 0}, {1, 0, -1, 0}, {1, 0, Integer.MAX_VALUE, 0},
            {4, 0, 0, 0}, {1, 4, 5, 0}};
        for (int[] w : wrong) {
            check.due("play " + java.util.Arrays.toString(w), x.play(w[0], w[1], w[2], w[3]), -1);
        }
        check.due("none came", x.told(4), came);
        check.due("play none", x.play(1, 2, 0, 0), 1);
        check.due("play none from the last on", x.play(1, 2, 4, 0), 1);
        check.due("play none from behind the last on", x.play(1, 2, 5, 0), 1);
        check.due("none came yet", x.told(4), came);
        check.due("play", x.play(1, 2, 0, 5), 1);
        int[] wanted = {0, 9, 44, 0, 15};
        for (int i = 0; i < 5; i++) {
            check.due("played " + i, x.sample(came + i, 2), wanted[i]);
            check.due("0 on the others", x.sample(came + i, 0), 0);
        }
        check.due("from 2 on", x.play(0, 3, 2, 2), 1);
        check.due("the trigger is followed", x.told(0), 2);
        check.due("samples", x.told(4), came + 7);
        check.due("trace 3", x.sample(came + 5, 3), 100);
        check.due("trace 3", x.sample(came + 6, 3), -100);
        check.due("64 at most", x.play(0, 0, 0, 64), -1);

        TraceBench y = Check.withSegment(new int[70]);
        y.row(3, 0, 0);
        check.due("play 64", y.play(3, 0, 6, 64), 1);
        check.due("play 64 too far", y.play(3, 0, 7, 64), -1);
        check.due("play 65", y.play(3, 0, 0, 65), -1);
    }
}
