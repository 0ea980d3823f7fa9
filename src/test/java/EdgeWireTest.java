/** Wires and promises 26 to 30: each sentence that names an edge, at it and beyond. */
public final class EdgeWireTest {
    private static final Check CHECK = new Check();
    private static final int LEAST = Integer.MIN_VALUE;
    private static final int MOST = Integer.MAX_VALUE;
    private static final int[] NOT_OF_FOUR = {-1, 4, LEAST, MOST};

    public static void main(String[] args) {
        levels();
        placesABit();
        whereBytesBegin();
        noneBehindAShortZero();
        wantedOnes();
        lastPlaces();
        behindAByte();
        asManyAsCanBe();
        bytesRefused();
        startsAndStops();
        bitsBehindAStart();
        stopsByBits();
        stopsWithoutAStart();
        ninthBits();
        elevenBytes();
        wiresOnAllTraces();
        wiresRefused();
        gotAndWhen();
        theLatestThatWasNotBad();
        frames();
        frameSums();
        framesFrom();
        CHECK.finish("EdgeWireTest");
    }

    private static int[] numbers(String bits, int zero, int one) {
        int[] all = new int[bits.length()];
        for (int i = 0; i < all.length; i++) {
            all[i] = bits.charAt(i) == '1' ? one : zero;
        }
        return all;
    }

    private static TraceBench wire(String bits) {
        return Check.withSegment(numbers(bits, -1, 0));
    }

    private static TraceBench twoWires(String clock, String data) {
        return Check.withSegment(numbers(clock, -1, 0), numbers(data, -1, 0));
    }

    /** A byte as one wire tells it, n places a bit, up to its last place, that of the 1. */
    private static String told(int v, int n) {
        StringBuilder text = new StringBuilder("0".repeat(n));
        for (int i = 0; i < 8; i++) {
            text.append(String.valueOf(v >> i & 1).repeat(n));
        }
        return text + "1".repeat(n / 2 + 1);
    }

    private static void levels() {
        CHECK.says("---- wires: a place is 1 where its trace is not below 0.");
        int[][] pairs = {{-1, 0}, {-128, 127}, {-1, 1}, {-128, 0}};
        for (int[] p : pairs) {
            TraceBench x = Check.withSegment(numbers("1" + told(0xA6, 2), p[0], p[1]));
            CHECK.due("levels " + p[0] + ", " + p[1], x.bytes(0, 0, 2), 1);
            CHECK.due("its byte", x.got(0), 0xA6);
            String[] two = pulses("101001100");
            TraceBench y = Check.withSegment(numbers(two[0], p[0], p[1]), numbers(two[1], p[0], p[1]));
            CHECK.due("two wires", y.wires(0, 0, 1), 1);
            CHECK.due("its byte", y.got(0), 0xA6);
        }
        CHECK.due("0 everywhere is 1 everywhere", Check.withSegment(new int[60]).bytes(0, 0, 2), 0);
    }

    private static void placesABit() {
        CHECK.says("then each n places further eight bits (the lowest first), then a 1");
        int[] values = {0, 1, 128, 0xA6, 255};
        for (int n = 2; n <= 16; n++) {
            for (int v : values) {
                TraceBench x = wire("111" + told(v, n));
                CHECK.due("n " + n, x.bytes(0, 0, n), 1);
                CHECK.due("its byte", x.got(0), v);
                CHECK.due("its place", x.when(0), 3);
                CHECK.due("no FAULT", x.when(-1), -4);
            }
            onlyThePlacesTold(n, '0');
            onlyThePlacesTold(n, '1');
        }
    }

    /** All other places, but for the 0 that begins the byte, are one and the same. */
    private static void onlyThePlacesTold(int n, char others) {
        StringBuilder text = new StringBuilder(String.valueOf(others).repeat(n / 2 + 9 * n + 1));
        text.setCharAt(0, '0');
        text.setCharAt(n / 2, '0');
        for (int i = 0; i < 8; i++) {
            text.setCharAt(n / 2 + n * (i + 1), (char) ('0' + (0x35 >> i & 1)));
        }
        text.setCharAt(n / 2 + 9 * n, '1');
        TraceBench x = wire(text.toString());
        CHECK.due("only the places told, n " + n, x.bytes(0, 0, n), 1);
        CHECK.due("its byte", x.got(0), 0x35);
    }

    private static void whereBytesBegin() {
        CHECK.says("the next 0 behind a 1 (or at place 0) begins one");
        for (int ahead = 0; ahead <= 5; ahead++) {
            TraceBench x = wire("1".repeat(ahead) + told(0x5A, 4));
            CHECK.due("behind " + ahead, x.bytes(0, 0, 4), 1);
            CHECK.due("its place", x.when(0), ahead);
            CHECK.due("its byte", x.got(0), 0x5A);
        }
        TraceBench x = wire("0".repeat(60));
        CHECK.due("0 everywhere, at place 0", x.bytes(0, 0, 4), 0);
        CHECK.due("a FAULT", x.when(-1), 38);
        TraceBench y = wire("1".repeat(60));
        CHECK.due("1 everywhere", y.bytes(0, 0, 4), 0);
        CHECK.due("no FAULT", y.when(-1), -4);
        TraceBench z = wire("00" + "1".repeat(40));
        CHECK.due("0 behind 0 begins none", z.bytes(0, 0, 4), 0);
        CHECK.due("no FAULT", z.when(-1), -4);
    }

    private static void noneBehindAShortZero() {
        CHECK.says("(else it is none; looked for on from the next place)");
        TraceBench x = wire("1011" + told(0x55, 4));
        CHECK.due("a 0 of one place", x.bytes(0, 0, 4), 1);
        CHECK.due("its place", x.when(0), 4);
        TraceBench y = wire("10" + "1" + told(0x55, 4));
        CHECK.due("a 0 of one place, the 0 wanted is the next one's", y.bytes(0, 0, 4), 1);
        CHECK.due("its place", y.when(0), 1);
        TraceBench z = wire("1001" + told(0x55, 4));
        CHECK.due("a 0 of two places", z.bytes(0, 0, 4), 1);
        CHECK.due("its place", z.when(0), 4);
        TraceBench w = wire("01" + "1" + told(0x55, 4));
        CHECK.due("a 0 at place 0 alone", w.bytes(0, 0, 4), 1);
        CHECK.due("its place", w.when(0), 3);
        TraceBench t = wire("001" + told(0x55, 4));
        CHECK.due("a 0 behind that at place 0", t.bytes(0, 0, 4), 1);
        CHECK.due("its place", t.when(0), 3);
        TraceBench v = wire("101011" + "1" + told(0x0F, 6));
        CHECK.due("two of one place", v.bytes(0, 0, 6), 1);
        CHECK.due("its place", v.when(0), 7);
        TraceBench u = wire("0" + told(0x0F, 6));
        CHECK.due("at place 0, one too early", u.bytes(0, 0, 6), 1);
        CHECK.due("its place", u.when(0), 0);
    }

    private static void wantedOnes() {
        CHECK.says("then a 1: else FAULT. How many bytes, up to the first FAULT");
        for (int n = 2; n <= 16; n += 7) {
            String well = told(0x42, n);
            String wrong = well.substring(0, well.length() - 1) + "0";
            TraceBench x = wire("11" + wrong + "1");
            CHECK.due("no 1, n " + n, x.bytes(0, 0, n), 0);
            CHECK.due("the place of the 1 that was wanted", x.when(-1), 2 + n / 2 + 9 * n);
            CHECK.due("the byte is none", x.got(0), -1);
            CHECK.due("the byte is none", x.when(0), -1);
        }
        CHECK.says("Its FAULT: the place of the 1 that was wanted, of the STOP; NONE: none.");
        String two = told(0x42, 2);
        String wrong = two.substring(0, two.length() - 1) + "0";
        TraceBench y = wire("1" + two + wrong + "1" + two);
        CHECK.due("one, then a FAULT, then another", y.bytes(0, 0, 2), 1);
        CHECK.due("the FAULT", y.when(-1), 1 + 20 + 19);
        CHECK.due("the first", y.got(0), 0x42);
        CHECK.due("no second", y.got(1), -1);
        TraceBench z = wire(wrong + "1");
        CHECK.due("a FAULT at once", z.bytes(0, 0, 2), 0);
        CHECK.due("the FAULT", z.when(-1), 19);
    }

    private static void lastPlaces() {
        CHECK.says("or the end (of the SEGMENT: a byte whose last place lies beyond is none)");
        for (int n = 2; n <= 16; n++) {
            String text = "1" + told(0x81, n);
            CHECK.due("its last place is the segment's, n " + n, wire(text).bytes(0, 0, n), 1);
            TraceBench cut = wire(text.substring(0, text.length() - 1));
            CHECK.due("its last place lies beyond, n " + n, cut.bytes(0, 0, n), 0);
            CHECK.due("that is no FAULT", cut.when(-1), -4);
            String wrong = text.substring(0, text.length() - 1) + "0";
            TraceBench fault = wire(wrong);
            CHECK.due("a 0 at the segment's last place, n " + n, fault.bytes(0, 0, n), 0);
            CHECK.due("that is a FAULT", fault.when(-1), text.length() - 1);
        }
        String two = told(0x42, 2);
        TraceBench x = wire(two + two.substring(0, 19));
        CHECK.due("the second lies beyond", x.bytes(0, 0, 2), 1);
        CHECK.due("no FAULT", x.when(-1), -4);
        CHECK.due("two places alone", wire("10").bytes(0, 0, 2), 0);
        CHECK.due("one place alone", Check.withOnePlace(-1).bytes(0, 0, 2), 0);
    }

    private static void behindAByte() {
        CHECK.says("behind a byte: behind its last bit");
        for (int n = 2; n <= 8; n++) {
            String one = told(0x00, n);
            for (int more = 0; more < 3; more++) {
                TraceBench x = wire(one + "1".repeat(more) + told(0xFE, n));
                CHECK.due("the next, n " + n, x.bytes(0, 0, n), 2);
                CHECK.due("its place", x.when(1), one.length() + more);
                CHECK.due("its byte", x.got(1), 0xFE);
            }
        }
        TraceBench y = wire("1" + told(0x55, 2) + "1".repeat(30));
        CHECK.due("a 0 behind a 1 within a byte begins none", y.bytes(0, 0, 2), 1);
        TraceBench z = wire("0".repeat(36) + "101" + told(0xFE, 4));
        CHECK.due("nor does one right ahead of its last bit's place", z.bytes(0, 0, 4), 2);
        CHECK.due("its place", z.when(1), 39);
    }

    private static void asManyAsCanBe() {
        // More than ten bytes of two places a bit do not fit in a segment.
        CHECK.says("or the end (of the SEGMENT: a byte whose last place lies beyond is none); 20 at most. BAD.");
        StringBuilder text = new StringBuilder();
        for (int i = 0; i < 10; i++) {
            text.append(told(17 * i, 2));
        }
        TraceBench x = wire(text + "1");
        CHECK.due("ten", x.bytes(0, 0, 2), 10);
        for (int i = 0; i < 10; i++) {
            CHECK.due("byte " + i, x.got(i), 17 * i);
            CHECK.due("its place", x.when(i), 20 * i);
        }
        CHECK.due("no eleventh", x.got(10), -1);
        CHECK.due("no eleventh", x.when(10), -1);
    }

    private static void bytesRefused() {
        CHECK.says("One wire of SEGMENT k on a trace, n (2 to 16) places a bit");
        TraceBench x = wire("1" + "0".repeat(160));
        int[] ns = {LEAST, -1, 0, 1, 2, 3, 15, 16, 17, MOST};
        for (int n : ns) {
            CHECK.due("n " + n, x.bytes(0, 0, n), n >= 2 && n <= 16 ? 0 : -1);
        }
        for (int t : NOT_OF_FOUR) {
            CHECK.due("trace " + t, x.bytes(0, t, 2), -1);
        }
        for (int t = 0; t < 4; t++) {
            CHECK.due("trace " + t, x.bytes(0, t, 2), 0);
        }
        int[] noSegments = {-1, 1, 7, 8, LEAST, MOST};
        for (int k : noSegments) {
            CHECK.due("segment " + k, x.bytes(k, 0, 2), -1);
        }
        CHECK.due("of no segment", new TraceBench().bytes(0, 0, 2), -1);
    }

    /** What two wires tell behind a START, by pulses of the clock with these bits, from place 3 on. */
    private static String[] pulses(String bits) {
        StringBuilder clock = new StringBuilder("11");
        StringBuilder data = new StringBuilder("10");
        for (char bit : bits.toCharArray()) {
            clock.append("01");
            data.append(bit).append(bit);
        }
        return new String[] {clock.toString(), data.toString()};
    }

    private static void startsAndStops() {
        CHECK.says("at a place at which the clock is 1 and was 1 at the one ahead: the data fall: START (bits begin anew); "
            + "they rise: STOP.");
        // A STOP without a START is a FAULT, so it is seen where there is one.
        String[][] fault = {{"11", "01"}, {"111", "001"}, {"0111", "0001"}, {"011", "001"}};
        for (String[] f : fault) {
            TraceBench x = twoWires(f[0], f[1]);
            CHECK.due("a STOP", x.wires(0, 0, 1), 0);
            CHECK.due("its place", x.when(-1), f[0].length() - 1);
        }
        String[][] none = {{"10", "01"}, {"01", "01"}, {"00", "01"}, {"11", "00"}, {"11", "11"}, {"11", "10"},
            {"111", "101"}, {"1011", "0110"}};
        for (String[] f : none) {
            TraceBench x = twoWires(f[0], f[1]);
            CHECK.due("no STOP", x.wires(0, 0, 1), 0);
            CHECK.due("no FAULT", x.when(-1), -4);
        }
        // The START is the last of these; with one more place the same clock stops it, else bits come behind it.
        String[] nine = pulses("010101010");
        String[][] start = {{"", ""}, {"0", "1"}, {"0101", "0011"}};
        for (String[] s : start) {
            TraceBench x = twoWires(s[0] + nine[0], s[1] + nine[1]);
            CHECK.due("a START", x.wires(0, 0, 1), 1);
            CHECK.due("its byte", x.got(0), 0x55);
            CHECK.due("its place", x.when(0), s[0].length() + 3);
        }
        String[][] noStart = {{"01", "10"}, {"10", "10"}, {"00", "10"}, {"11", "11"}, {"11", "00"}};
        for (String[] s : noStart) {
            CHECK.due("no START", twoWires(s[0] + nine[0].substring(2), s[1] + nine[1].substring(2)).wires(0, 0, 1), 0);
        }
    }

    private static void bitsBehindAStart() {
        CHECK.says("At a place at which the clock comes to 1 from 0, behind a START: a bit: the data there");
        String[] eight = pulses("10100110");
        CHECK.due("eight bits are not yet one", twoWires(eight[0], eight[1]).wires(0, 0, 1), 0);
        String[] nine = pulses("101001100");
        TraceBench x = twoWires(nine[0], nine[1]);
        CHECK.due("nine are", x.wires(0, 0, 1), 1);
        CHECK.due("the highest first", x.got(0), 0xA6);
        CHECK.due("the first bit's place", x.when(0), 3);
        // The data change where the clock comes to 1, and while it is 0: the data there count.
        TraceBench y = twoWires("11" + "001".repeat(9), "10" + "001110110001001110110110110");
        CHECK.due("the data there", y.wires(0, 0, 1), 1);
        CHECK.due("its byte", y.got(0), 0x98);
        TraceBench z = twoWires("0101" + nine[0], "0011" + nine[1]);
        CHECK.due("bits ahead of a START are none", z.wires(0, 0, 1), 1);
        CHECK.due("its byte", z.got(0), 0xA6);
        CHECK.due("its place", z.when(0), 7);
        // The clock goes on being 1: no bit more.
        TraceBench w = twoWires("11" + "0111".repeat(9), "10" + "0000".repeat(9));
        CHECK.due("one bit a clock", w.wires(0, 0, 1), 1);
        CHECK.due("its place", w.when(0), 3);
        CHECK.says("START (bits begin anew)");
        String[] some = pulses("11111");
        TraceBench v = twoWires(some[0] + nine[0], some[1] + nine[1]);
        CHECK.due("a START behind five bits", v.wires(0, 0, 1), 1);
        CHECK.due("its byte", v.got(0), 0xA6);
        CHECK.due("its place", v.when(0), some[0].length() + 3);
        String[] most = pulses("11111111");
        TraceBench u = twoWires(most[0] + nine[0], most[1] + nine[1]);
        CHECK.due("a START behind eight bits", u.wires(0, 0, 1), 1);
        CHECK.due("its byte", u.got(0), 0xA6);
        String[] full = pulses("111111111");
        TraceBench t = twoWires(full[0] + nine[0], full[1] + nine[1]);
        CHECK.due("a START behind nine bits", t.wires(0, 0, 1), 2);
        CHECK.due("the first", t.got(0), 256 + 255);
        CHECK.due("the second", t.got(1), 0xA6);
    }

    private static void stopsByBits() {
        CHECK.says("STOP when two to eight bits of a byte came (one may be that of its own clock), "
            + "or without a START: FAULT.");
        for (int bits = 0; bits <= 36; bits++) {
            String[] two = pulses("0".repeat(bits));
            TraceBench x = twoWires(two[0] + "1", two[1] + "1");
            CHECK.due("bytes behind " + bits + " bits", x.wires(0, 0, 1), bits / 9);
            boolean fault = bits % 9 >= 2;
            CHECK.due("STOP behind " + bits + " bits", x.when(-1), fault ? two[0].length() : -4);
        }
    }

    private static void stopsWithoutAStart() {
        CHECK.says("or without a START: FAULT. How many bytes with a ninth bit, up to the first FAULT, or the end");
        String[] nine = pulses("000000000");
        String stop = "1";
        TraceBench x = twoWires(nine[0] + stop + "011", nine[1] + stop + "001");
        CHECK.due("a second STOP behind one", x.wires(0, 0, 1), 1);
        CHECK.due("its place", x.when(-1), nine[0].length() + 3);
        TraceBench y = twoWires("11" + nine[0], "01" + nine[1]);
        CHECK.due("a byte behind the FAULT is none", y.wires(0, 0, 1), 0);
        CHECK.due("the FAULT", y.when(-1), 1);
        TraceBench z = twoWires(nine[0] + stop + nine[0] + stop, nine[1] + stop + nine[1] + stop);
        CHECK.due("START, STOP, START, STOP", z.wires(0, 0, 1), 2);
        CHECK.due("no FAULT", z.when(-1), -4);
        TraceBench w = twoWires(nine[0] + stop + nine[0].substring(2), nine[1] + stop + nine[1].substring(2));
        CHECK.due("bits behind a STOP are none", w.wires(0, 0, 1), 1);
        String[] five = pulses("00000");
        TraceBench v = twoWires(nine[0] + five[0].substring(2) + stop + nine[0], nine[1] + five[1].substring(2) + stop
            + nine[1]);
        CHECK.due("one, a FAULT, one", v.wires(0, 0, 1), 1);
        CHECK.due("the FAULT", v.when(-1), nine[0].length() + 10);
        TraceBench u = twoWires(five[0], five[1]);
        CHECK.due("the end behind five bits", u.wires(0, 0, 1), 0);
        CHECK.due("is no FAULT", u.when(-1), -4);
        CHECK.due("one place alone", Check.withOnePlace(0).wires(0, 0, 1), 0);
        CHECK.says("Of the latest bytes(), wires() that was not BAD");
        TraceBench again = twoWires(five[0] + "01" + "011", five[1] + "00" + "001");
        for (int i = 0; i < 3; i++) {
            CHECK.due("the same once more", again.wires(0, 0, 1), 0);
            CHECK.due("its FAULT", again.when(-1), 2 + 10 + 2 + 2);
        }
        TraceBench left = twoWires("11" + "01".repeat(10), "10" + "00".repeat(10));
        for (int i = 0; i < 3; i++) {
            CHECK.due("a START is not left over", left.wires(0, 0, 1), 1);
            CHECK.due("nor are bits", left.got(0), 0);
            CHECK.due("nor its place", left.when(0), 3);
        }
        CHECK.due("trace 2 has no START", left.wires(0, 0, 2), 0);
        CHECK.due("no FAULT", left.when(-1), -4);
    }

    private static void ninthBits() {
        CHECK.says("eight bits (the highest first) are a byte, the ninth: 0 well, 1: none wanted it.");
        int[] values = {0, 1, 127, 128, 255};
        for (int v : values) {
            for (int ninth = 0; ninth < 2; ninth++) {
                String[] two = pulses(Integer.toBinaryString(256 + v).substring(1) + ninth);
                TraceBench x = twoWires(two[0], two[1]);
                CHECK.due("one", x.wires(0, 0, 1), 1);
                CHECK.due(v + " with " + ninth, x.got(0), v + 256 * ninth);
            }
        }
    }

    /** A bench that got these bytes by two wires, eleven at most. */
    private static TraceBench gotByTwo(int ninth, int... bytes) {
        StringBuilder bits = new StringBuilder();
        for (int v : bytes) {
            bits.append(Integer.toBinaryString(256 + v).substring(1)).append(ninth);
        }
        String[] two = pulses(bits.toString());
        TraceBench x = twoWires(two[0], two[1]);
        x.wires(0, 0, 1);
        return x;
    }

    private static void elevenBytes() {
        // More than eleven bytes of two wires do not fit in a segment.
        CHECK.says("up to the first FAULT, or the end; 20 at most.");
        TraceBench x = gotByTwo(0, 1, 2, 3, 4, 5, 6, 7, 8, 9, 10, 11);
        for (int i = 0; i < 11; i++) {
            CHECK.due("byte " + i, x.got(i), i + 1);
            CHECK.due("its place", x.when(i), 3 + 18 * i);
        }
        CHECK.due("no twelfth", x.got(11), -1);
        CHECK.due("no twelfth", x.when(11), -1);
    }

    private static void wiresOnAllTraces() {
        CHECK.says("Two wires: clock and data");
        String[] two = pulses("101001100");
        for (int c = 0; c < 4; c++) {
            for (int d = 0; d < 4; d++) {
                if (c != d) {
                    TraceBench x = Check.armed("equal " + c + " " + d, 0, two[0].length());
                    long sample = 0;
                    x.come(onTwo(c, 1, d, 2) << 32 | onTwo(c, 0, d, 0));
                    for (int i = 0; i < two[0].length(); i++) {
                        sample = sample << 32 | onTwo(c, two[0].charAt(i) - '1', d, two[1].charAt(i) - '1');
                        if (i % 2 == 1) {
                            x.come(sample);
                        }
                    }
                    CHECK.due("places", x.segment(0, 1), two[0].length() + 1);
                    CHECK.due("clock " + c + ", data " + d, x.wires(0, c, d), 1);
                    CHECK.due("its byte", x.got(0), 0xA6);
                    CHECK.due("its place", x.when(0), 4);
                }
            }
        }
    }

    private static long onTwo(int c, int clock, int d, int data) {
        int[] all = new int[4];
        all[c] = clock;
        all[d] = data;
        return Check.sample(all[0], all[1], all[2], all[3]);
    }

    private static void wiresRefused() {
        CHECK.says("BAD: also clock and data are one.");
        TraceBench x = twoWires("1111", "1111");
        for (int c = 0; c < 4; c++) {
            for (int d = 0; d < 4; d++) {
                CHECK.due("clock " + c + ", data " + d, x.wires(0, c, d) == -1 ? 1 : 0, c == d ? 1 : 0);
            }
            for (int wrong : NOT_OF_FOUR) {
                CHECK.due("clock " + wrong, x.wires(0, wrong, c), -1);
                CHECK.due("data " + wrong, x.wires(0, c, wrong), -1);
            }
        }
        int[] noSegments = {-1, 1, 7, 8, LEAST, MOST};
        for (int k : noSegments) {
            CHECK.due("segment " + k, x.wires(k, 0, 1), -1);
        }
        CHECK.due("of no segment", new TraceBench().wires(0, 0, 1), -1);
    }

    private static void gotAndWhen() {
        CHECK.says("byte i, 256 more with a ninth bit 1. BAD: there is none such.");
        TraceBench none = new TraceBench();
        int[] all = {LEAST, -2, -1, 0, 1, 19, 20, MOST};
        for (int i : all) {
            CHECK.due("got " + i + " of none", none.got(i), -1);
        }
        TraceBench x = gotByTwo(0, 7, 8);
        for (int i : all) {
            CHECK.due("got " + i, x.got(i), i == 0 ? 7 : i == 1 ? 8 : -1);
        }
        CHECK.due("got 2", x.got(2), -1);
        CHECK.says("Its place of byte i (i 0 on): where it began: its 0; the first bit's place. i -1: the FAULT's. "
            + "BAD: there is no such byte.");
        for (int i : all) {
            CHECK.due("when " + i + " of none", none.when(i), i == -1 ? -4 : -1);
            CHECK.due("when " + i, x.when(i), i == -1 ? -4 : i == 0 ? 3 : i == 1 ? 21 : -1);
        }
        CHECK.due("when 2", x.when(2), -1);
    }

    private static void theLatestThatWasNotBad() {
        CHECK.says("Of the latest bytes(), wires() that was not BAD");
        String[] nine = pulses("101001100");
        TraceBench x = twoWires(nine[0] + "011", nine[1] + "001");
        CHECK.due("wires", x.wires(0, 0, 1), 1);
        int[][] bad = {{1, 0, 2}, {0, 4, 2}, {0, 0, 17}, {0, 0, 1}};
        for (int[] b : bad) {
            CHECK.due("bytes BAD", x.bytes(b[0], b[1], b[2]), -1);
            CHECK.due("byte 0 stays", x.got(0), 0xA6);
        }
        int[][] worse = {{1, 0, 1}, {0, 4, 1}, {0, 0, 4}, {0, 1, 1}};
        for (int[] b : worse) {
            CHECK.due("wires BAD", x.wires(b[0], b[1], b[2]), -1);
            CHECK.due("byte 0 stays", x.when(0), 3);
        }
        CHECK.due("the other way round", x.wires(0, 1, 0) == -1 ? 1 : 0, 0);
        CHECK.due("what was got is gone", x.got(0), -1);
        CHECK.due("wires again", x.wires(0, 0, 1), 1);
        CHECK.due("bytes that find none", x.bytes(0, 2, 2), 0);
        CHECK.due("what was got is gone", x.got(0), -1);
        CHECK.due("its FAULT too", x.when(-1), -4);
        x.wires(0, 0, 1);
        x.drop();
        CHECK.due("its segment went, it stays", x.got(0), 0xA6);
    }

    private static void frames() {
        CHECK.says("85, a byte n (1 to 8), n bytes, and the lowest byte of their sum and n");
        for (int n = 0; n <= 9; n++) {
            int[] bytes = new int[Math.min(11, n + 3)];
            bytes[0] = 85;
            bytes[1] = n;
            int sum = n;
            for (int i = 2; i < bytes.length - 1; i++) {
                bytes[i] = 60 + i;
                sum += 60 + i;
            }
            bytes[bytes.length - 1] = sum & 255;
            CHECK.due("n " + n, gotByTwo(0, bytes).frame(0), n >= 1 && n <= 8 ? 0 : -4);
            CHECK.due("n " + n + ", ninth bits", gotByTwo(1, bytes).frame(0), n >= 1 && n <= 8 ? 0 : -4);
            if (n >= 1 && n <= 8) {
                CHECK.due("n " + n + ", one is missing",
                    gotByTwo(0, java.util.Arrays.copyOf(bytes, bytes.length - 1)).frame(0), -4);
                bytes[bytes.length - 1] = sum + 1 & 255;
                CHECK.due("n " + n + ", sum one more", gotByTwo(0, bytes).frame(0), -4);
                bytes[bytes.length - 1] = sum - 1 & 255;
                CHECK.due("n " + n + ", sum one less", gotByTwo(0, bytes).frame(0), -4);
                bytes[bytes.length - 1] = sum - n & 255;
                CHECK.due("n " + n + ", sum without n", gotByTwo(0, bytes).frame(0), -4);
            }
        }
        CHECK.due("n 255", gotByTwo(0, 85, 255, 0, 255, 0, 0).frame(0), -4);
        CHECK.due("84", gotByTwo(0, 84, 1, 5, 6).frame(0), -4);
        CHECK.due("86", gotByTwo(0, 86, 1, 5, 6).frame(0), -4);
        CHECK.due("85", gotByTwo(0, 85, 1, 5, 6).frame(0), 0);
        int[] cut = {85, 1, 0};
        for (int length = 0; length <= 3; length++) {
            CHECK.due("only " + length, gotByTwo(0, java.util.Arrays.copyOf(cut, length)).frame(0), -4);
        }
    }

    private static void frameSums() {
        CHECK.says("the lowest byte of their sum and n");
        CHECK.due("255", gotByTwo(0, 85, 1, 254, 255).frame(0), 0);
        CHECK.due("256", gotByTwo(0, 85, 1, 255, 0).frame(0), 0);
        CHECK.due("257", gotByTwo(0, 85, 2, 254, 1, 1).frame(0), 0);
        CHECK.due("2048", gotByTwo(0, 85, 8, 255, 255, 255, 255, 255, 255, 255, 255, 0).frame(0), 0);
        CHECK.due("with ninth bits", gotByTwo(1, 85, 1, 255, 0).frame(0), 0);
        CHECK.due("256, its 0 is missing", gotByTwo(0, 85, 1, 255).frame(0), -4);
    }

    private static void framesFrom() {
        CHECK.says("looked for from byte i on, each 85 that begins none is passed: the number of the byte with which "
            + "the first one begins. BAD: i below 0; NONE.");
        TraceBench x = gotByTwo(0, 85, 85, 1, 85, 86, 85, 1, 7, 8, 85, 1);
        int[] wanted = {1, 1, 5, 5, 5, 5, -4, -4, -4, -4, -4, -4, -4};
        for (int i = 0; i < wanted.length; i++) {
            CHECK.due("from " + i, x.frame(i), wanted[i]);
        }
        CHECK.due("from far on", x.frame(MOST), -4);
        CHECK.due("from -1 on", x.frame(-1), -1);
        CHECK.due("from far ahead", x.frame(LEAST), -1);
        CHECK.due("of none", new TraceBench().frame(0), -4);
        CHECK.due("of none", new TraceBench().frame(-1), -1);
        CHECK.due("one within another that is none", gotByTwo(0, 85, 3, 85, 1, 0, 1, 0).frame(0), 2);
        CHECK.due("one within another", gotByTwo(0, 85, 4, 85, 1, 0, 1, 91).frame(0), 0);
        CHECK.due("one within another, from within", gotByTwo(0, 85, 4, 85, 1, 0, 1, 91).frame(1), 2);
    }
}
