/** Promises 2 to 5: feed, end, trigger, fault. */
public final class TapeTest {
    private static final String SIX = "in 0 1 2;in 0 1 2;in 0 1 2;in 0 1 2;in 0 1 2;in 0 1 2";

    public static void main(String[] args) {
        Check check = new Check();
        tape(check);
        wellTold(check);
        tokens(check);
        order(check);
        bounds(check);
        stages(check);
        whatStays(check);
        check.finish("TapeTest");
    }

    private static void tape(Check check) {
        TraceBench x = new TraceBench();
        for (int i = 1; i <= 25; i++) {
            check.due("feed " + i, x.feed(0x2020202020202020L), 8 * i);
        }
        check.due("feed full", x.feed(0), -3);
        check.due("end too long", x.end(201), -1);
        check.due("end below 0", x.end(-1), -1);
        check.due("end whole", x.end(200), 200);
        check.due("end 193", x.end(193), 200);
        check.due("feed to 201", x.feed(0), -3);
        check.due("end 192", x.end(192), 193);
        check.due("end 193 again", x.end(193), -1);
        check.due("feed to 200", x.feed(0x72697365L << 32 | 0x20302035L), 200);
        check.due("192 blanks, rise 0 5", x.trigger(), 1);
        check.due("the tape is empty then", x.end(0), 0);
        check.due("feed", x.feed(-1), 8);
        check.due("bytes of 255 are no token", x.trigger(), -10);
        check.due("fault", x.fault(), 1);
        check.due("the tape is empty then too", x.feed(0), 8);
    }

    private static void wellTold(Check check) {
        check.stages("rise 0 0", 1);
        check.stages("fall 3 -128", 1);
        check.stages("wide 1 127 200", 1);
        check.stages("thin 2 -0 1", 1);
        check.stages("runt 0 126 127", 1);
        check.stages("in 0 -128 -127", 1);
        check.stages("out 0 -1 1", 1);
        check.stages("equal 0 3", 1);
        check.stages("equal 2 2", 1);
        check.stages("20*rise 0 0 within 200", 1);
        check.stages("1 * rise 0 0 within 1", 1);
        check.stages("  rise0-5within7;2*fall 001 5   ", 2);
        check.stages("rise 0-5", 1);
        check.stages(SIX, 6);
    }

    private static void tokens(Check check) {
        check.fault("jump 0 1", 1, 0);
        check.fault("  Rise 0 1", 1, 2);
        check.fault("rises 0 1", 1, 0);
        check.fault("ris 0 1", 1, 0);
        check.fault("xise 0 1", 1, 0);
        check.fault("risf 0 1", 1, 0);
        check.fault("withins 0 1", 1, 0);
        check.fault("rise 0 0001", 1, 7);
        check.fault("rise 0 -0001", 1, 7);
        check.fault("rise 0 - 1", 1, 7);
        check.fault("rise 0 --1", 1, 7);
        check.fault("rise 0 1-", 1, 8);
        check.fault("rise\t0 1", 1, 4);
        check.fault("rise 0 1 , rise 0 1", 1, 9);
        check.fault("rise 0 1 x", 1, 9);
        check.fault("rise 0 1 within 5 x", 1, 18);
        check.fault(SIX + ";+", 1, 54);
        check.fault("\u00ffrise 0 1", 1, 0);
        check.fault("\u0000", 1, 0);
    }

    private static void order(Check check) {
        check.fault("", 2, 0);
        check.fault("    ", 2, 4);
        check.fault("rise", 2, 4);
        check.fault("rise  ", 2, 6);
        check.fault("rise 0 ", 2, 7);
        check.fault("rise rise", 2, 5);
        check.fault("rise 0 ;", 2, 7);
        check.fault("rise 0 1 2", 2, 9);
        check.fault("rise 0 1 *", 2, 9);
        check.fault("rise 0 1 rise", 2, 9);
        check.fault("rise 0 1 within", 2, 15);
        check.fault("rise 0 1 within rise", 2, 16);
        check.fault("rise 0 1 within 5 within 5", 2, 18);
        check.fault("rise 0 1 ;", 2, 10);
        check.fault("rise 0 1 ; ; rise 0 1", 2, 11);
        check.fault("within 5", 2, 0);
        check.fault("; rise 0 1", 2, 0);
        check.fault("* rise 0 1", 2, 0);
        check.fault("3 rise 0 1", 2, 2);
        check.fault("3", 2, 1);
        check.fault("3 * 3 * rise 0 1", 2, 4);
        check.fault("3 * within 5", 2, 4);
        check.fault("wide 0 1", 2, 8);
        check.fault("runt 0 1", 2, 8);
        check.fault("equal 0", 2, 7);
    }

    private static void bounds(Check check) {
        check.fault("rise 4 0", 3, 5);
        check.fault("rise -1 0", 3, 5);
        check.fault("rise 0 128", 3, 7);
        check.fault("rise 0 -129", 3, 7);
        check.fault("wide 0 0 0", 3, 9);
        check.fault("thin 0 0 201", 3, 9);
        check.fault("equal 0 4", 3, 8);
        check.fault("0 * rise 0 0", 3, 0);
        check.fault("21 * rise 0 0", 3, 0);
        check.fault("-1 * rise 0 0", 3, 0);
        check.fault("rise 0 0 within 0", 3, 16);
        check.fault("rise 0 0 within 201", 3, 16);
        // A number is judged before what stands behind it is read.
        check.fault("21 x", 3, 0);
        check.fault("rise 9 x", 3, 5);
        check.fault("runt 0 5 5", 5, 9);
        check.fault("in 0 5 4", 5, 7);
        check.fault("in 0 -128 -128", 5, 10);
        check.fault("out 0 -5 -6", 5, 9);
        check.fault("out 0 5 -129", 3, 8);
        check.fault("in 0 5 5 x", 5, 7);
        check.fault("in 0 5 5;", 5, 7);
    }

    private static void stages(Check check) {
        check.fault(SIX + "; in 0 1 2", 4, 55);
        check.fault(SIX + ";", 4, 54);
        check.fault(SIX + ";  ", 4, 56);
        check.fault(SIX + ";;", 4, 54);
        check.fault(SIX + "; 99", 4, 55);
        check.fault(SIX + "; jump", 1, 55);
    }

    private static void whatStays(Check check) {
        TraceBench x = new TraceBench();
        check.due("two stages", Check.trigger(x, "rise 0 1; fall 0 1"), 2);
        x.keep(0, 1);
        x.arm();
        Check.come(x, 0, 5);
        check.due("stage", x.told(1), 1);
        check.due("a fault", Check.trigger(x, "rise 0 1; rise 0 1; rise 0 1; fall"), -44);
        check.due("the stages stay", x.told(8), 2);
        check.due("it stays armed", x.told(0), 1);
        check.due("the stage stays", x.told(1), 1);
        check.due("it goes on", Check.come(x, 5, 0), 0);
        check.due("fired", x.told(0), 2);
        check.due("a new one", Check.trigger(x, "rise 0 9"), 1);
        check.due("not armed", x.told(0), 0);
        check.due("no stage", x.told(1), -4);
        check.due("no segment is begun", Check.come(x, 0, 0, 0, 0), 0);
        check.due("fault", x.fault(), 0);
    }
}
