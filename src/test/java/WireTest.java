/** Promises 26 to 30: bytes, wires, got, when, frame. */
public final class WireTest {
    public static void main(String[] args) {
        Check check = new Check();
        oneWire(check);
        oneWireFaults(check);
        oneWireEdges(check);
        twoWires(check);
        twoWiresFaults(check);
        frames(check);
        check.finish("WireTest");
    }

    private static final class Line {
        private final StringBuilder text = new StringBuilder();

        Line say(String bits, int n) {
            for (char bit : bits.toCharArray()) {
                text.append(String.valueOf(bit).repeat(n));
            }
            return this;
        }

        Line say(int v, int n) {
            say("0", n);
            for (int i = 0; i < 8; i++) {
                say((v >> i & 1) == 1 ? "1" : "0", n);
            }
            return say("1", n);
        }

        TraceBench bench() {
            return Check.withSegment(levels(text.toString()));
        }
    }

    private static int[] levels(String bits) {
        int[] all = new int[bits.length()];
        for (int i = 0; i < all.length; i++) {
            all[i] = bits.charAt(i) == '1' ? 0 : -1;
        }
        return all;
    }

    private static void oneWire(Check check) {
        TraceBench x = new Line().say("1", 3).say(0xA5, 3).say(0x00, 3).say(0xFF, 3).bench();
        check.due("bytes", x.bytes(0, 0, 3), 3);
        check.due("first", x.got(0), 0xA5);
        check.due("second", x.got(1), 0);
        check.due("third", x.got(2), 255);
        check.due("no fourth", x.got(3), -1);
        check.due("no byte -1", x.got(-1), -1);
        check.due("its place", x.when(0), 3);
        check.due("its place", x.when(1), 33);
        check.due("its place", x.when(2), 63);
        check.due("no such", x.when(3), -1);
        check.due("no such", x.when(-2), -1);
        check.due("no fault", x.when(-1), -4);
        int[][] wrong = {{1, 0, 3}, {-1, 0, 3}, {0, 4, 3}, {0, -1, 3}, {0, 0, 1}, {0, 0, 17}};
        for (int[] w : wrong) {
            check.due("bytes " + java.util.Arrays.toString(w), x.bytes(w[0], w[1], w[2]), -1);
        }
        check.due("what was got stays", x.got(2), 255);
        check.due("all 1", x.bytes(0, 2, 16), 0);
        check.due("nothing was got", x.got(0), -1);
        check.due("no fault", x.when(-1), -4);
        TraceBench y = new Line().say(0x3C, 10).bench();
        check.due("from place 0", y.bytes(0, 0, 10), 1);
        check.due("got", y.got(0), 0x3C);
        check.due("when", y.when(0), 0);
        TraceBench z = new Line().say(0x12, 2).say(0x34, 2).say(0x56, 2).say(0x78, 2).say(0x9A, 2).bench();
        check.due("two places a bit", z.bytes(0, 0, 2), 5);
        check.due("last", z.got(4), 0x9A);
    }

    private static void oneWireFaults(Check check) {
        TraceBench x = new Line().say("1", 1).say(0x81, 3).say("0", 3).say("11111111", 3).say("0", 3).bench();
        check.due("one, then a fault", x.bytes(0, 0, 3), 1);
        check.due("place of the 1 that was wanted", x.when(-1), 31 + 1 + 27);
        check.due("got", x.got(0), 0x81);
        check.due("the faulty one is none", x.got(1), -1);
        check.due("the fault goes", x.bytes(0, 1, 3), 0);
        check.due("none", x.when(-1), -4);
    }

    private static void oneWireEdges(Check check) {
        // A short 0 begins none; looked for on from the next place.
        TraceBench x = new Line().say("1011", 1).say(0x55, 4).bench();
        check.due("a short 0", x.bytes(0, 0, 4), 1);
        check.due("got", x.got(0), 0x55);
        check.due("when", x.when(0), 4);
        // Behind a short 0 a 0 behind a 0 begins none either.
        TraceBench v = new Line().say("1001011", 1).say("1", 60).bench();
        check.due("a 0 behind a 0", v.bytes(0, 0, 4), 0);
        check.due("no fault", v.when(-1), -4);
        // The last place looked at is the middle of the last bit.
        TraceBench y = new Line().say("0", 4).say("0".repeat(8), 4).say("1", 3).bench();
        check.due("it ends with its last place", y.bytes(0, 0, 4), 1);
        TraceBench z = new Line().say("0", 4).say("0".repeat(8), 4).say("1", 2).bench();
        check.due("its last place lies beyond", z.bytes(0, 0, 4), 0);
        check.due("that is no fault", z.when(-1), -4);
        // Behind the last bit's place the next may begin at once.
        TraceBench w = new Line().say("0", 4).say("1".repeat(8), 4).say("1", 3).say(0x0F, 4).bench();
        check.due("the next may begin", w.bytes(0, 0, 4), 2);
        check.due("at", w.when(1), 39);
        check.due("got", w.got(1), 0x0F);
    }

    /** Clock and data by letters: s a START from idle, p a STOP, 0 and 1 bits, each with the clock low ahead. */
    private static TraceBench two(String what) {
        StringBuilder clock = new StringBuilder("11");
        StringBuilder data = new StringBuilder("11");
        for (char c : what.toCharArray()) {
            switch (c) {
                case 's': clock.append("011"); data.append("110"); break;
                case 'p': clock.append("011"); data.append("001"); break;
                case '0': clock.append("01"); data.append("00"); break;
                default: clock.append("01"); data.append("11"); break;
            }
        }
        return Check.withSegment(levels(clock.toString()), levels(data.toString()));
    }

    private static void twoWires(Check check) {
        TraceBench x = two("s101001010" + "000011111" + "p");
        check.due("wires", x.wires(0, 0, 1), 2);
        check.due("first", x.got(0), 0xA5);
        check.due("second, not wanted", x.got(1), 256 + 0x0F);
        check.due("first bit's place", x.when(0), 6);
        check.due("first bit's place", x.when(1), 24);
        check.due("no fault", x.when(-1), -4);
        check.due("no third", x.got(2), -1);
        int[][] wrong = {{1, 0, 1}, {-1, 0, 1}, {0, 4, 1}, {0, -1, 1}, {0, 0, 4}, {0, 0, -1}, {0, 0, 0}, {0, 3, 3}};
        for (int[] w : wrong) {
            check.due("wires " + java.util.Arrays.toString(w), x.wires(w[0], w[1], w[2]), -1);
        }
        check.due("what was got stays", x.got(1), 256 + 0x0F);
        check.due("without a ninth bit", two("s10100101").wires(0, 0, 1), 0);
        TraceBench open = two("s00");
        check.due("it ends with the clock 1, the data 0", open.wires(0, 0, 1), 0);
        check.due("that is no stop", open.when(-1), -4);
        TraceBench y = two("101s101s111111110p");
        check.due("a new start begins bits anew", y.wires(0, 0, 1), 1);
        check.due("got", y.got(0), 255);
        check.due("no fault", y.when(-1), -4);
        TraceBench z = two("s000000001p000000001s111111110");
        check.due("behind a stop no bits", z.wires(0, 0, 1), 2);
        check.due("got", z.got(1), 255);
        // At place 0 nothing is ahead.
        TraceBench w = Check.withSegment(levels("11"), levels("00"));
        check.due("nothing", w.wires(0, 0, 1), 0);
        check.due("nothing", w.when(-1), -4);
    }

    private static void twoWiresFaults(Check check) {
        TraceBench x = two("p");
        check.due("a stop without a start", x.wires(0, 0, 1), 0);
        check.due("its place", x.when(-1), 4);
        TraceBench y = two("s000000000p");
        check.due("a stop behind a byte", y.wires(0, 0, 1), 1);
        check.due("none", y.when(-1), -4);
        TraceBench z = two("s0000000001p");
        check.due("a stop behind one bit and its own", z.wires(0, 0, 1), 1);
        check.due("its place", z.when(-1), 2 + 3 + 20 + 2);
        TraceBench v = two("s0000000000000000p");
        check.due("a stop behind seven bits and its own", v.wires(0, 0, 1), 1);
        check.due("its place", v.when(-1), 2 + 3 + 32 + 2);
        TraceBench w = two("s00000000p");
        check.due("its own clock is the ninth", w.wires(0, 0, 1), 1);
        check.due("well", w.when(-1), -4);
        TraceBench u = two("s000000000pps000000000p");
        check.due("two stops", u.wires(0, 0, 1), 1);
        check.due("the second one's place", u.when(-1), 2 + 3 + 18 + 3 + 2);
        TraceBench t = two("sp");
        check.due("a stop at once", t.wires(0, 0, 1), 0);
        check.due("none", t.when(-1), -4);
        TraceBench s = Check.withSegment(levels("1111"), levels("1101"));
        check.due("a stop in the same clock", s.wires(0, 0, 1), 0);
        check.due("none", s.when(-1), -4);
    }

    private static TraceBench got(int... all) {
        // Two places a bit: ten bytes at most.
        Line line = new Line();
        for (int v : all) {
            line.say(v, 2);
        }
        TraceBench x = new TraceBench();
        int[] levels = levels(line.text.toString());
        Check.trigger(x, "rise 3 1");
        x.keep(100, 100);
        x.arm();
        for (int i = 0; i < 200; i += 2) {
            int a = i < levels.length ? levels[i] : 0;
            int b = i + 1 < levels.length ? levels[i + 1] : 0;
            x.come(Check.sample(a, 0, 0, i == 100 ? 1 : 0) << 32 | Check.sample(b, 0, 0, 0));
        }
        x.come(0);
        x.bytes(0, 0, 2);
        return x;
    }

    /** The longest frame takes eleven bytes: as many as two wires can bring in a segment. */
    private static void longFrame(Check check) {
        StringBuilder bits = new StringBuilder();
        for (int v : new int[] {85, 8, 1, 2, 3, 4, 5, 6, 7, 250, 30}) {
            bits.append(Integer.toBinaryString(256 + v).substring(1)).append('0');
        }
        TraceBench x = new TraceBench();
        Check.trigger(x, "rise 3 1");
        x.keep(100, 100);
        x.arm();
        x.come(Check.sample(0, 0, 0, 0) << 32 | Check.sample(0, -1, 0, 0));
        for (int i = 0; i < bits.length(); i++) {
            int data = bits.charAt(i) == '1' ? 0 : -1;
            x.come(Check.sample(-1, data, 0, i == 49 ? 1 : 0) << 32 | Check.sample(0, data, 0, 0));
        }
        x.come(0);
        check.due("places", x.segment(0, 1), 201);
        check.due("eleven", x.wires(0, 0, 1), 11);
        check.due("the last", x.got(10), 30);
        check.due("the longest frame", x.frame(0), 0);
    }

    private static void frames(Check check) {
        TraceBench x = got(7, 85, 2, 200, 100, 46, 85, 1, 9, 10);
        check.due("bytes", x.got(9), 10);
        check.due("frame", x.frame(0), 1);
        check.due("frame", x.frame(1), 1);
        check.due("the next", x.frame(2), 6);
        check.due("none", x.frame(7), -4);
        check.due("none", x.frame(1000), -4);
        check.due("none", x.frame(Integer.MAX_VALUE), -4);
        check.due("bad", x.frame(-1), -1);
        check.due("a passed 85", got(85, 85, 1, 85, 86).frame(0), 1);
        check.due("inside", got(85, 3, 85, 1, 0, 1, 0).frame(0), 2);
        check.due("no sum", got(85, 1, 2, 4).frame(0), -4);
        check.due("length 0", got(85, 0, 0).frame(0), -4);
        check.due("length 8", got(85, 8, 0, 0, 0, 0, 0, 0, 0, 0).frame(0), -4);
        check.due("length 7", got(85, 7, 0, 0, 0, 0, 0, 0, 0, 7).frame(0), 0);
        check.due("cut", got(85, 2, 0, 0).frame(0), -4);
        check.due("alone", got(85).frame(0), -4);
        TraceBench y = two("s" + "010101011" + "000000011" + "000001001" + "000001011" + "p");
        check.due("wires", y.wires(0, 0, 1), 4);
        check.due("with ninth bits", y.got(0), 256 + 85);
        check.due("the lowest eight bits", y.frame(0), 0);
        longFrame(check);
    }
}
