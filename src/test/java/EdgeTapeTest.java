/** The tape, its tokens and faults, and promises 2 to 5: each sentence that names an edge, at it and beyond. */
public final class EdgeTapeTest {
    private static final Check CHECK = new Check();
    private static final String STAGE = "in 0 1 2";
    private static final String[] EVENTS = {"rise", "fall", "wide", "thin", "runt", "in", "out", "equal"};

    /** The lowest and the highest number for each that stands behind an event. */
    private static final int[] T = {0, 3}, L = {-128, 127}, N = {1, 200};
    private static final int[][][] OPERANDS = {{T, L}, {T, L}, {T, L, N}, {T, L, N}, {T, L, L}, {T, L, L}, {T, L, L},
        {T, T}};

    public static void main(String[] args) {
        places();
        feeds();
        ends();
        blanks();
        everyByteAhead();
        everyByteBetween();
        everyByteBehind();
        asLongAsMayBe();
        words();
        figures();
        operandCounts();
        wrongKinds();
        operandBounds();
        timesBounds();
        withinBounds();
        secondLevels();
        stageCounts();
        seventhStage();
        theEnd();
        firstMet();
        emptyThen();
        notArmed();
        theOneThatThereWas();
        nothingIsLeftOver();
        latestFault();
        CHECK.finish("EdgeTapeTest");
    }

    private static String times(String text, int n) {
        StringBuilder all = new StringBuilder();
        for (int i = 0; i < n; i++) {
            all.append(i == 0 ? "" : ";").append(text);
        }
        return all.toString();
    }

    private static void places() {
        CHECK.says("THE TAPE has 200 bytes, places from 0.");
        CHECK.fault("?" + " ".repeat(199), 1, 0);
        CHECK.fault(" ".repeat(199) + "?", 1, 199);
        CHECK.fault(" ".repeat(200), 2, 200);
        CHECK.stages(" ".repeat(192) + "rise 0 5", 1);
        CHECK.fault(";".repeat(200), 2, 0);
        CHECK.fault("x".repeat(200), 1, 0);
        CHECK.fault("9".repeat(200), 1, 0);
        CHECK.fault("rise 0 " + "9".repeat(193), 1, 7);
        CHECK.fault("rise 0 5" + ";".repeat(192), 2, 9);
    }

    private static void feeds() {
        CHECK.says("Eight bytes come behind THE TAPE, the highest first: how many it has.");
        TraceBench x = new TraceBench();
        CHECK.due("feed", x.feed(0x7269736520302035L), 8);
        CHECK.due("rise 0 5", x.trigger(), 1);
        x.feed(0x3520302065736972L);
        CHECK.due("5 0 esir", x.trigger(), -12);
        x.feed(0x8000000000000000L);
        x.end(1);
        CHECK.due("its highest byte, 128", x.trigger(), -10);
        x.feed(0x2020202020202072L);
        CHECK.due("behind", x.feed(0x6973652030203520L), 16);
        CHECK.due("a word over two feeds", x.trigger(), 1);

        CHECK.says("FULL: more than 200.");
        for (int had = 185; had <= 200; had++) {
            TraceBench y = new TraceBench();
            Check.lay(y, " ".repeat(had));
            CHECK.due("feed behind " + had, y.feed(0x2020202020202020L), had <= 192 ? had + 8 : -3);
            CHECK.due("it has then", y.end(0), had <= 192 ? had + 8 : had);
        }
        TraceBench z = new TraceBench();
        Check.lay(z, "rise 0 5" + " ".repeat(185));
        CHECK.due("feed behind 193", z.feed(-1), -3);
        CHECK.due("its bytes are the same", z.trigger(), 1);
    }

    private static void ends() {
        CHECK.says("THE TAPE keeps its first n bytes: how many it had. BAD.");
        TraceBench x = new TraceBench();
        CHECK.due("end of an empty one", x.end(0), 0);
        CHECK.due("end of an empty one", x.end(1), -1);
        CHECK.due("end of an empty one", x.end(-1), -1);
        Check.lay(x, "rise 0 57");
        int[] wrong = {-1, 10, 16, 200, 201, Integer.MAX_VALUE, Integer.MIN_VALUE};
        for (int n : wrong) {
            CHECK.due("end(" + n + ") of 9", x.end(n), -1);
        }
        CHECK.due("all", x.end(9), 9);
        CHECK.due("one less", x.end(8), 9);
        CHECK.due("what went does not come back", x.end(9), -1);
        CHECK.due("still 8", x.end(8), 8);
        CHECK.due("trigger", x.trigger(), 1);
        x.keep(0, 0);
        x.arm();
        CHECK.due("its first bytes: rise 0 5", Check.come(x, 4, 5), 1);
        Check.lay(x, "rise 0 ?????????");
        x.end(7);
        CHECK.due("fed behind what was kept", x.feed(0x3520202020202020L), 15);
        CHECK.due("trigger", x.trigger(), 1);
        Check.lay(x, STAGE);
        CHECK.due("end(0)", x.end(0), 8);
        CHECK.due("empty", x.end(0), 0);
        TraceBench y = new TraceBench();
        Check.lay(y, " ".repeat(200));
        CHECK.due("end(201) of 200", y.end(201), -1);
        CHECK.due("end(200) of 200", y.end(200), 200);
    }

    private static void blanks() {
        CHECK.says("TOKENS, each as long as may be, blanks (32) between");
        CHECK.stages("rise 0 5", 1);
        CHECK.stages("  rise  0  5  ", 1);
        CHECK.stages("rise0-5", 1);
        CHECK.stages("2*rise0-5within7;fall1 5", 2);
        CHECK.stages("2 * rise 0 -5 within 7 ; fall 1 5", 2);
        CHECK.fault("ri se 0 5", 1, 0);
        CHECK.fault("rise 0 - 5", 1, 7);
        CHECK.fault("wide 0 1 2 3", 2, 11);
    }

    /** Each of the 256 bytes right ahead of a word. */
    private static void everyByteAhead() {
        CHECK.says("WORDS (a .. z), NUMBERS (1 to 3 figures, perhaps a - right ahead), one * or ;");
        for (int b = 0; b < 256; b++) {
            String text = (char) b + "rise 0 5";
            if (b == ' ') {
                CHECK.stages(text, 1);
            } else if (b == '*' || b == ';') {
                CHECK.fault(text, 2, 0);
            } else if (b == '0') {
                CHECK.fault(text, 3, 0);
            } else if (b >= '1' && b <= '9') {
                CHECK.fault(text, 2, 1);
            } else {
                CHECK.fault(text, 1, 0);
            }
        }
    }

    private static void everyByteBetween() {
        CHECK.says("1 no TOKEN, or one that is too long, a WORD that is none of these (its first byte).");
        for (int b = 0; b < 256; b++) {
            String text = "rise" + (char) b + "0 5";
            if (b == ' ' || b == '-' || b == '0') {
                CHECK.stages(text, 1);
            } else if (b >= 'a' && b <= 'z') {
                CHECK.fault(text, 1, 0);
            } else if (b >= '1' && b <= '9') {
                CHECK.fault(text, 3, 4);
            } else {
                CHECK.fault(text, b == '*' || b == ';' ? 2 : 1, 4);
            }
        }
    }

    private static void everyByteBehind() {
        CHECK.says("1 no TOKEN");
        for (int b = 0; b < 256; b++) {
            String text = "rise 0 5" + (char) b;
            if (b == ' ' || b >= '0' && b <= '9') {
                CHECK.stages(text, 1);
            } else if (b == ';') {
                CHECK.fault(text, 2, 9);
            } else {
                CHECK.fault(text, b == '*' ? 2 : 1, 8);
            }
        }
    }

    private static void asLongAsMayBe() {
        CHECK.says("each as long as may be");
        CHECK.fault("risewithin 0 5", 1, 0);
        CHECK.fault("inout 0 1 2", 1, 0);
        CHECK.fault("rise 03", 2, 7);
        CHECK.fault("in 0 1 2 3", 2, 9);
        CHECK.fault("in 0 12", 2, 7);
        CHECK.stages("in 0-2-1", 1);
        CHECK.fault("2**rise 0 5", 2, 2);
    }

    private static void words() {
        CHECK.says("a WORD that is none of these (its first byte)");
        String behind = " 0 1 2";
        for (String word : EVENTS) {
            for (int i = 0; i < word.length(); i++) {
                char other = word.charAt(i) == 'z' ? 'y' : 'z';
                CHECK.fault(word.substring(0, i) + other + word.substring(i + 1) + behind, 1, 0);
            }
            CHECK.fault(word + "s" + behind, 1, 0);
            CHECK.fault("s" + word + behind, 1, 0);
            CHECK.fault(word.substring(1) + behind, 1, 0);
            CHECK.fault("  " + word.substring(0, word.length() - 1) + behind, 1, 2);
            CHECK.fault(word.toUpperCase() + behind, 1, 0);
        }
        CHECK.fault("rise 0 5 withi 5", 1, 9);
        CHECK.fault("rise 0 5 withins 5", 1, 9);
        CHECK.fault("rise 0 5 xithin 5", 1, 9);
        CHECK.fault("rise 0 5 withix 5", 1, 9);
    }

    private static void figures() {
        CHECK.says("NUMBERS (1 to 3 figures, perhaps a - right ahead)");
        String[] well = {"5", "05", "005", "-5", "-05", "-005", "0", "-0", "-00", "000", "-000", "127", "-128"};
        for (String number : well) {
            CHECK.stages("rise 0 " + number, 1);
        }
        String[] none = {"0005", "-0005", "1270", "-1280", "12345", "-", "--5", "-;", "-x", "+5", "- 5", "0000000005"};
        for (String number : none) {
            CHECK.fault("rise 0 " + number, 1, 7);
        }
        CHECK.says("or one that is too long");
        CHECK.fault("0002 * rise 0 5", 1, 0);
        CHECK.fault("rise 0000 5", 1, 5);
        CHECK.fault("rise 0 5 0000", 1, 9);
        CHECK.fault("rise 0 5 within 0007", 1, 16);
        CHECK.fault("-0001", 1, 0);
    }

    /** An event with numbers that are well told, as many of them as asked for. */
    private static String event(int e, int operands) {
        StringBuilder text = new StringBuilder(EVENTS[e]);
        for (int i = 0; i < operands; i++) {
            text.append(' ').append(i);
        }
        return text.toString();
    }

    private static void operandCounts() {
        CHECK.says("event: rise T L | fall T L | wide T L N | thin T L N | runt T L L | in T L L | out T L L | equal T T");
        for (int e = 0; e < EVENTS.length; e++) {
            int n = OPERANDS[e].length;
            CHECK.stages(event(e, n), 1);
            CHECK.stages(event(e, n) + ";" + event(e, n), 2);
            for (int less = 0; less < n; less++) {
                String text = event(e, less);
                CHECK.fault(text, 2, text.length());
                CHECK.fault(text + "  ", 2, text.length() + 2);
                CHECK.fault(text + ";" + STAGE, 2, text.length());
            }
            String more = event(e, n + 1);
            CHECK.fault(more, 2, more.length() - 1);
        }
    }

    private static void wrongKinds() {
        CHECK.says("2 a TOKEN that can not stand there");
        String[] tokens = {"rise", "within", "equal", "*", ";"};
        for (int e = 0; e < EVENTS.length; e++) {
            for (int i = 0; i < OPERANDS[e].length; i++) {
                String ahead = event(e, i) + " ";
                for (String token : tokens) {
                    CHECK.fault(ahead + token + " 1 2 3", 2, ahead.length());
                }
                CHECK.fault(ahead + "jump", 1, ahead.length());
            }
        }
        CHECK.says("stage: [NUMBER *] event [within NUMBER]");
        CHECK.fault("within 5", 2, 0);
        CHECK.fault("* rise 0 5", 2, 0);
        CHECK.fault("; rise 0 5", 2, 0);
        CHECK.fault("2 rise 0 5", 2, 2);
        CHECK.fault("2 ; rise 0 5", 2, 2);
        CHECK.fault("2 2 * rise 0 5", 2, 2);
        CHECK.fault("2 * 2 * rise 0 5", 2, 4);
        CHECK.fault("2 * ; rise 0 5", 2, 4);
        CHECK.fault("2 * within 5", 2, 4);
        CHECK.fault("2 * * rise 0 5", 2, 4);
        CHECK.fault("rise 0 5 * 2", 2, 9);
        CHECK.fault("rise 0 5 fall 0 5", 2, 9);
        CHECK.fault("rise 0 5 within fall", 2, 16);
        CHECK.fault("rise 0 5 within ;", 2, 16);
        CHECK.fault("rise 0 5 within *", 2, 16);
        CHECK.fault("rise 0 5 within within", 2, 16);
        CHECK.fault("rise 0 5 within 5 6", 2, 18);
        CHECK.fault("rise 0 5 within 5 within 5", 2, 18);
        CHECK.fault("rise 0 5 within 5 * 2", 2, 18);
        CHECK.says("trigger: stage { ; stage }");
        CHECK.fault("rise 0 5 ;", 2, 10);
        CHECK.fault("rise 0 5 ; ; fall 0 5", 2, 11);
        CHECK.fault("rise 0 5 ; within 5", 2, 11);
        CHECK.fault("rise 0 5 ; * fall 0 5", 2, 11);
    }

    /** Each number of each event, one at its bounds and beyond, the others well told. */
    private static void operandBounds() {
        CHECK.says("T: a NUMBER 0 to 3, L: -128 to 127, N and the one behind within: 1 to 200");
        for (int e = 0; e < EVENTS.length; e++) {
            for (int i = 0; i < OPERANDS[e].length; i++) {
                int low = OPERANDS[e][i][0];
                int high = OPERANDS[e][i][1];
                bound(e, i, low, true);
                bound(e, i, high, true);
                bound(e, i, low - 1, false);
                bound(e, i, high + 1, false);
                bound(e, i, -999, false);
                bound(e, i, 999, false);
            }
        }
    }

    private static void bound(int e, int i, int number, boolean well) {
        String ahead = event(e, i) + " ";
        StringBuilder text = new StringBuilder(ahead).append(number);
        for (int j = i + 1; j < OPERANDS[e].length; j++) {
            text.append(" 127");
        }
        boolean levels = e >= 4 && e <= 6;
        if (!well) {
            CHECK.fault(text.toString(), 3, ahead.length());
        } else if (levels && (i == 1 && number == 127 || i == 0)) {
            // Of two levels of 127 the second is refused, so the one ahead was taken.
            CHECK.fault(text.toString(), 5, text.length() - 3);
        } else if (levels && i == 2 && number == -128) {
            CHECK.fault(text.toString(), 5, ahead.length());
        } else if (e == 7 && i == 0) {
            CHECK.fault(text.toString(), 3, text.length() - 3);
        } else {
            CHECK.stages(text.toString(), 1);
        }
    }

    private static void timesBounds() {
        CHECK.says("the one ahead of *: 1 to 20");
        int[] numbers = {-999, -20, -1, 0, 1, 2, 19, 20, 21, 200, 999};
        for (int e = 0; e < EVENTS.length; e++) {
            for (int n : numbers) {
                String text = n + " * " + event(e, OPERANDS[e].length);
                if (n >= 1 && n <= 20) {
                    CHECK.stages(text, 1);
                } else {
                    CHECK.fault(text, 3, 0);
                }
            }
        }
        CHECK.says("3 a NUMBER out of its bounds.");
        CHECK.fault("20 * rise 0 5; 21 * rise 0 5", 3, 15);
        CHECK.fault("rise 3 127 within 200; rise 4 127 within 200", 3, 28);
        CHECK.fault("rise 3 127 within 200; rise 3 128 within 200", 3, 30);
        CHECK.fault("rise 3 127 within 200; rise 3 127 within 201", 3, 41);
    }

    private static void withinBounds() {
        CHECK.says("the one behind within: 1 to 200");
        int[] numbers = {-999, -1, 0, 1, 2, 199, 200, 201, 999};
        for (int e = 0; e < EVENTS.length; e++) {
            String ahead = event(e, OPERANDS[e].length) + " within ";
            for (int n : numbers) {
                if (n >= 1 && n <= 200) {
                    CHECK.stages(ahead + n, 1);
                } else {
                    CHECK.fault(ahead + n, 3, ahead.length());
                }
            }
            CHECK.fault(ahead, 2, ahead.length());
        }
    }

    private static void secondLevels() {
        CHECK.says("5 of runt, in, out: the second L is not above the first one (at it).");
        String[] events = {"runt", "in", "out"};
        int[] firsts = {-128, -127, -1, 0, 1, 126, 127};
        for (String event : events) {
            for (int first : firsts) {
                String ahead = event + " 2 " + first + " ";
                CHECK.fault(ahead + first, 5, ahead.length());
                if (first > -128) {
                    CHECK.fault(ahead + (first - 1), 5, ahead.length());
                    CHECK.fault(ahead + -128, 5, ahead.length());
                }
                if (first < 127) {
                    CHECK.stages(ahead + (first + 1), 1);
                    CHECK.stages(ahead + 127, 1);
                }
                CHECK.fault(ahead + 128, 3, ahead.length());
                CHECK.fault(ahead + -129, 3, ahead.length());
            }
        }
        CHECK.stages("wide 0 5 5", 1);
        CHECK.stages("thin 0 5 4", 1);
        CHECK.stages("equal 3 3", 1);
        CHECK.stages("equal 3 2", 1);
    }

    private static void stageCounts() {
        CHECK.says("6 stages at most.");
        for (int n = 1; n <= 8; n++) {
            String text = times(STAGE, n);
            if (n <= 6) {
                CHECK.stages(text, n);
            } else {
                CHECK.fault(text, 4, 54);
            }
        }
    }

    private static void seventhStage() {
        CHECK.says("4 a seventh stage (the TOKEN, the end behind the sixth ;).");
        String six = times(STAGE, 6);
        CHECK.fault(six + ";", 4, 54);
        CHECK.fault(six + "  ;  ", 4, 58);
        CHECK.fault(six + ";   rise 0 5", 4, 57);
        CHECK.fault(six + "; 2 * rise 0 5", 4, 55);
        CHECK.fault(six + "; 99", 4, 55);
        CHECK.fault(six + ";;", 4, 54);
        CHECK.fault(six + "; *", 4, 55);
        CHECK.fault(six + "; within 5", 4, 55);
        CHECK.fault(six + "; jump", 1, 55);
        CHECK.fault(six + "; 1234", 1, 55);
        CHECK.fault(six + " *", 2, 54);
        CHECK.stages(six + "   ", 6);
        CHECK.fault(times(STAGE, 5) + ";", 2, 45);
    }

    private static void theEnd() {
        CHECK.says("2 a TOKEN that can not stand there (or the end: the length)");
        CHECK.fault("", 2, 0);
        CHECK.fault(" ", 2, 1);
        CHECK.fault("2", 2, 1);
        CHECK.fault("2 ", 2, 2);
        CHECK.fault("2 *", 2, 3);
        CHECK.fault("2 * ", 2, 4);
        CHECK.fault("rise 0 5 within", 2, 15);
        CHECK.fault("rise 0 5 within    ", 2, 19);
        CHECK.fault("rise 0 5;", 2, 9);
    }

    private static void firstMet() {
        CHECK.says("the first met as it is read (a TOKEN is read when the one before has been taken)");
        CHECK.fault("21 ?", 3, 0);
        CHECK.fault("20 ?", 1, 3);
        CHECK.fault("20 21", 2, 3);
        CHECK.fault("rise 4 ?", 3, 5);
        CHECK.fault("rise 3 ?", 1, 7);
        CHECK.fault("rise 0 128 ?", 3, 7);
        CHECK.fault("rise 0 127 ?", 1, 11);
        CHECK.fault("in 0 5 5 ?", 5, 7);
        CHECK.fault("in 0 5 5 6", 5, 7);
        CHECK.fault("in 0 5 6 ?", 1, 9);
        CHECK.fault("wide 0 5 0 ?", 3, 9);
        CHECK.fault("within ?", 2, 0);
        CHECK.fault("rise 0 5 within 0 ?", 3, 16);
        CHECK.fault("rise 0 5 2 ?", 2, 9);
        CHECK.fault("rise 4 128", 3, 5);
        CHECK.fault("rise 0 5; jump; 21 * rise 0 5", 1, 10);
    }

    private static void emptyThen() {
        CHECK.says("THE TAPE (empty then) is the trigger: how many stages it has");
        String[] texts = {STAGE, times(STAGE, 6), "jump", "", "rise 9 5", " ".repeat(200)};
        for (String text : texts) {
            TraceBench x = new TraceBench();
            Check.trigger(x, text);
            CHECK.due("the tape is empty behind '" + text + "'", x.end(0), 0);
            CHECK.due("trigger() of an empty tape", x.trigger(), -10);
            CHECK.due("its fault", x.fault(), 2);
        }
    }

    private static void notArmed() {
        CHECK.says("it is not ARMED, no SEGMENT is begun.");
        TraceBench armed = Check.armed("rise 0 5; fall 0 5", 0, 0);
        Check.come(armed, 0, 5);
        CHECK.due("armed", armed.told(0), 1);
        Check.trigger(armed, "fall 0 5");
        CHECK.due("armed ahead of it", armed.told(0), 0);
        CHECK.due("no stage", armed.told(1), -4);
        CHECK.due("not often", armed.told(2), -4);
        CHECK.due("not begun", armed.told(3), -4);
        CHECK.due("nothing is looked for", Check.come(armed, 5, 0, 5, 0), 0);
        TraceBench fired = Check.armed("rise 0 5", 0, 2);
        Check.come(fired, 0, 5);
        CHECK.due("fired", fired.told(0), 2);
        Check.trigger(fired, "rise 0 5");
        CHECK.due("fired ahead of it", fired.told(0), 0);
        CHECK.due("no segment", Check.come(fired, 0, 0, 0, 0), 0);
        TraceBench neither = new TraceBench();
        CHECK.due("of a new one", Check.trigger(neither, STAGE), 1);
        CHECK.due("neither", neither.told(0), 0);
        TraceBench kept = Check.armed("rise 0 5", 0, 0);
        Check.come(kept, 0, 5);
        Check.trigger(kept, "fall 0 5");
        CHECK.due("what is kept stays", kept.told(5), 1);
        CHECK.due("it can be armed", kept.arm(), 1);
        CHECK.due("it is the new one", Check.come(kept, 5, 0), 2);
    }

    private static void theOneThatThereWas() {
        CHECK.says("-10 less the place of its FAULT: the one that there was stays.");
        String[] faulty = {"jump", "", "rise 0 5; fall 0 5; in 0 3 2", "2 * rise 0 6; 3 * rise 0 7 within 1;",
            times("9 * fall 3 9 within 9", 6) + ";"};
        for (String text : faulty) {
            TraceBench x = Check.armed("2 * rise 0 5; 2 * fall 0 5 within 4", 0, 0);
            Check.come(x, 0, 5, 0, 5);
            CHECK.due("stage", x.told(1), 1);
            CHECK.due("refused", Check.trigger(x, text) <= -10 ? 1 : 0, 1);
            CHECK.due("still armed", x.told(0), 1);
            CHECK.due("its stage", x.told(1), 1);
            CHECK.due("its stages", x.told(8), 2);
            CHECK.due("began", x.told(3), 3);
            CHECK.due("it goes on", Check.come(x, 0, 5), 0);
            CHECK.due("how often", x.told(2), 1);
            CHECK.due("it fires", Check.come(x, 0, 0), 1);
        }
        TraceBench none = new TraceBench();
        Check.trigger(none, "rise 0 5; jump");
        CHECK.due("there was none", none.arm(), -2);
        CHECK.due("no stages", none.told(8), 0);
    }

    /** What one text told is not told by the next. */
    private static void nothingIsLeftOver() {
        CHECK.says("stage: [NUMBER *] event [within NUMBER]");
        TraceBench x = Check.armed("3 * rise 0 5 within 2", 0, 0);
        for (int i = 0; i < 2; i++) {
            Check.trigger(x, "rise 0 5");
            x.arm();
            CHECK.due("once, whenever", Check.come(x, 0, 0, 0, 0, 5, 5), i + 1);
        }
    }

    private static void latestFault() {
        CHECK.says("The FAULT of the latest trigger(); 0.");
        TraceBench x = new TraceBench();
        CHECK.due("of none", x.fault(), 0);
        String[] texts = {"jump", "rise", "rise 9 9", times(STAGE, 7), "in 0 2 2"};
        for (int i = 0; i < texts.length; i++) {
            Check.trigger(x, texts[i]);
            CHECK.due("fault of '" + texts[i] + "'", x.fault(), i + 1);
            CHECK.due("again", x.fault(), i + 1);
            Check.lay(x, STAGE);
            CHECK.due("another text is not yet read", x.fault(), i + 1);
            CHECK.due("trigger", x.trigger(), 1);
            CHECK.due("none", x.fault(), 0);
        }
    }
}
