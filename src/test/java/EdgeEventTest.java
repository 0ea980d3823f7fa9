/** Events, stages, and how a trigger is followed (terms, part 2): each sentence that names an edge. */
public final class EdgeEventTest {
    private static final Check CHECK = new Check();
    private static final int[] NUMBERS = {-128, -127, -126, -2, -1, 0, 1, 2, 125, 126, 127};

    public static void main(String[] args) {
        risesAndFalls();
        bands();
        equals();
        notAtTheFirst();
        highsBeginWithARise();
        highLengths();
        runts();
        howOften();
        fromTheNextSampleOn();
        whereAStageBegan();
        within();
        withinOfLaterStages();
        notLookedAt();
        fires();
        CHECK.finish("EdgeEventTest");
    }

    private static int bit(boolean b) {
        return b ? 1 : 0;
    }

    /** Whether the trigger fires at the second of two samples. */
    private static int pair(String text, int trace, int p, int s) {
        return Check.comeOn(Check.armed(text, 0, 0), trace, p, s);
    }

    /** The samples at which it fires; each time it is armed anew behind that one. */
    private static String all(String text, int... numbers) {
        TraceBench x = Check.armed(text, 0, 0);
        Check.come(x, numbers);
        return Check.fired(x);
    }

    private static int[] row(int length, int from, int to, int number) {
        int[] made = new int[length];
        java.util.Arrays.fill(made, from, to, number);
        return made;
    }

    private static void risesAndFalls() {
        int[] levels = {-128, -127, -1, 0, 1, 126, 127};
        CHECK.says("Of trace T: rise: p below L, s not");
        for (int level : levels) {
            for (int p : NUMBERS) {
                for (int s : NUMBERS) {
                    int trace = (p ^ s) & 3;
                    String text = "rise " + trace + " " + level;
                    CHECK.due(text + " at " + p + ", " + s, pair(text, trace, p, s), bit(p < level && s >= level));
                }
            }
        }
        CHECK.says("fall: p not below L, s below");
        for (int level : levels) {
            for (int p : NUMBERS) {
                for (int s : NUMBERS) {
                    int trace = (p ^ s) & 3;
                    String text = "fall " + trace + " " + level;
                    CHECK.due(text + " at " + p + ", " + s, pair(text, trace, p, s), bit(p >= level && s < level));
                }
            }
        }
        CHECK.says("Of trace T");
        for (int told = 0; told < 4; told++) {
            for (int trace = 0; trace < 4; trace++) {
                CHECK.due("rise " + told + " on " + trace, pair("rise " + told + " 5", trace, 0, 5), bit(told == trace));
                CHECK.due("out " + told + " on " + trace, pair("out " + told + " 0 4", trace, 0, 5), bit(told == trace));
            }
        }
    }

    private static void bands() {
        int[][] levels = {{-128, -127}, {-1, 1}, {0, 1}, {126, 127}, {-128, 127}, {-127, 126}};
        CHECK.says("in: s lies in L to L, p not");
        for (int[] l : levels) {
            String text = "in 0 " + l[0] + " " + l[1];
            for (int p : NUMBERS) {
                for (int s : NUMBERS) {
                    boolean was = p >= l[0] && p <= l[1];
                    boolean is = s >= l[0] && s <= l[1];
                    CHECK.due(text + " at " + p + ", " + s, pair(text, 0, p, s), bit(is && !was));
                }
            }
        }
        CHECK.says("out: p does, s not");
        for (int[] l : levels) {
            String text = "out 0 " + l[0] + " " + l[1];
            for (int p : NUMBERS) {
                for (int s : NUMBERS) {
                    boolean was = p >= l[0] && p <= l[1];
                    boolean is = s >= l[0] && s <= l[1];
                    CHECK.due(text + " at " + p + ", " + s, pair(text, 0, p, s), bit(was && !is));
                }
            }
        }
    }

    private static void equals() {
        CHECK.says("equal: s is the same of both, p is not");
        int[][] pairs = {{5, 5}, {5, 4}, {-128, -128}, {-128, 127}, {127, 127}, {0, -1}};
        for (int[] p : pairs) {
            for (int[] s : pairs) {
                TraceBench x = Check.armed("equal 0 1", 0, 0);
                Check.come(x, new int[] {p[0], s[0]}, new int[] {p[1], s[1]});
                CHECK.due("equal at " + p[0] + " " + p[1] + ", " + s[0] + " " + s[1], x.told(5),
                    bit(s[0] == s[1] && p[0] != p[1]));
            }
        }
        long ahead = Check.sample(1, 2, 3, 4);
        for (int t = 0; t < 4; t++) {
            for (int u = 0; u < 4; u++) {
                TraceBench x = Check.armed("equal " + t + " " + u, 0, 0);
                CHECK.due("all become the same, equal " + t + " " + u, x.come(ahead << 32 | Check.sample(7, 7, 7, 7)),
                    bit(t != u));
            }
        }
    }

    private static void notAtTheFirst() {
        CHECK.says("none happens at the first SAMPLE behind arm()");
        String[] texts = {"rise 0 5", "fall 0 5", "in 0 5 6", "out 0 5 6", "equal 0 1"};
        int[] p = {4, 5, 4, 5, 4};
        int[] s = {5, 4, 5, 4, 0};
        for (int i = 0; i < texts.length; i++) {
            TraceBench x = new TraceBench();
            Check.trigger(x, texts[i]);
            x.keep(0, 0);
            Check.come(x, p[i], p[i]);
            x.arm();
            CHECK.due(texts[i] + " at the first", Check.come(x, s[i], s[i]), 0);
            CHECK.due(texts[i] + " at a later one", Check.come(x, p[i], s[i]), 1);
            CHECK.due(texts[i] + " at the first behind arming itself", Check.come(x, p[i], p[i]), 1);
            TraceBench first = Check.armed(texts[i], 0, 0);
            Check.come(first, p[i], s[i]);
            CHECK.due(texts[i] + " at the second of all", first.told(5), 1);
        }
        // It fires at sample 1, and is armed anew behind it: what comes at 2 is not looked at, at 3 it is.
        CHECK.same("rise, at once again", all("rise 0 5", 0, 5, 0, 5, 5, 0, 5, 0), "1 3 6");
        CHECK.same("fall, at once again", all("fall 0 5", 5, 0, 5, 0, 0, 5, 0, 5), "1 3 6");
    }

    private static void highsBeginWithARise() {
        CHECK.says("HIGH is a row of SAMPLES not below L that begins with a rise (behind arm())");
        CHECK.same("wide, high from the first on", all("wide 0 5 1", 5, 5, 5, 0), "");
        CHECK.same("thin, high from the first on", all("thin 0 5 200", 5, 5, 5, 0), "");
        CHECK.same("runt, high from the first on", all("runt 0 5 9", 5, 5, 5, 0), "");
        CHECK.same("wide, risen at the second", all("wide 0 5 1", 4, 5, 4, 4), "2");
        CHECK.same("thin, risen at the second", all("thin 0 5 200", 4, 5, 4, 4), "2");
        CHECK.same("runt, risen at the second", all("runt 0 5 9", 4, 5, 4, 4), "2");
        String[] texts = {"wide 0 5 1", "thin 0 5 200", "runt 0 5 9"};
        for (String text : texts) {
            TraceBench x = Check.armed(text, 0, 0);
            Check.come(x, 0, 5);
            x.arm();
            CHECK.due(text + ", risen ahead of arm()", Check.come(x, 5, 0), 0);
            CHECK.due(text + ", risen behind it", Check.come(x, 5, 0), 1);
            TraceBench y = Check.armed(text, 0, 0);
            Check.come(y, 0, 0);
            y.arm();
            CHECK.due(text + ", risen at the first behind arm()", Check.come(y, 5, 0), 0);
            TraceBench z = Check.armed("rise 0 5", 0, 0);
            CHECK.due("fires", Check.come(z, 0, 5), 1);
            Check.trigger(z, text);
            z.arm();
            CHECK.due(text + ", risen for another trigger", Check.come(z, 5, 0), 1);
        }
        // Of two stages: the high began ahead of the stage that looks for its fall, but behind arm().
        CHECK.same("risen in another stage", all("rise 0 9; thin 0 5 9", 0, 5, 9, 4), "3");
        CHECK.same("high goes on over a new beginning", all("wide 0 5 3 within 3", 0, 5, 5, 5, 4, 4), "4");
        CHECK.same("risen at a new beginning", all("thin 0 5 9 within 2", 0, 0, 5, 4), "3");
        // It arms itself behind 4, so the rise at 5, its first sample, begins no high.
        int[] five = {0, 5, 0, 5, 0, 5, 0, 5, 0, 5, 0, 0};
        CHECK.same("risen at the first behind arming itself", all("2 * thin 0 5 9", five), "4 10");
    }

    private static void highLengths() {
        CHECK.says("wide: at a fall that ends a HIGH of N or more SAMPLES");
        int[] bounds = {1, 2, 3, 64, 199, 200};
        for (int n : bounds) {
            for (int length = Math.max(1, n - 1); length <= n + 1; length++) {
                int[] numbers = row(length + 2 + length % 2, 1, 1 + length, 5);
                CHECK.same("wide " + n + " of " + length, all("wide 0 5 " + n, numbers),
                    length >= n ? String.valueOf(length + 1) : "");
            }
        }
        CHECK.same("wide before it falls", all("wide 0 5 1", 0, 5, 5, 5), "");
        CHECK.says("thin: of fewer");
        for (int n : bounds) {
            for (int length = Math.max(1, n - 1); length <= n + 1; length++) {
                int[] numbers = row(length + 2 + length % 2, 1, 1 + length, 5);
                CHECK.same("thin " + n + " of " + length, all("thin 0 5 " + n, numbers),
                    length < n ? String.valueOf(length + 1) : "");
            }
        }
        CHECK.same("wide, at its fall alone", all("2 * wide 0 5 1", 0, 5, 0, 0, 0, 0), "");
        CHECK.same("thin, at its fall alone", all("2 * thin 0 5 9", 0, 5, 0, 0, 0, 0), "");
        CHECK.same("thin before it falls", all("thin 0 5 9", 0, 5, 5, 5), "");
        int[] longer = row(302, 1, 300, 5);
        CHECK.same("longer than the ring is", all("wide 0 5 200", longer), "300");
        CHECK.same("longer than the ring is", all("thin 0 5 200", longer), "");
        CHECK.same("the level is not below itself, one less is", all("wide 0 5 2", 4, 5, 5, 4), "3");
        CHECK.same("the one behind a high has its own length", all("thin 0 5 2", 0, 5, 5, 0, 5, 0), "5");
    }

    private static void runts() {
        CHECK.says("runt: at a fall (L the first one) that ends a HIGH in which none is at the second L or above");
        CHECK.same("below the second", all("runt 0 2 5", 1, 2, 4, 1), "3");
        CHECK.same("at the second", all("runt 0 2 5", 1, 2, 5, 1), "");
        CHECK.same("above the second", all("runt 0 2 5", 1, 2, 6, 1), "");
        CHECK.same("at the second when it rises", all("runt 0 2 5", 1, 5, 2, 1), "");
        CHECK.same("below the second when it rises", all("runt 0 2 5", 1, 4, 2, 1), "3");
        CHECK.same("at the second in the middle", all("runt 0 2 5", 1, 2, 5, 2, 1, 1), "");
        CHECK.same("no fall to the first one", all("runt 0 2 5", 1, 3, 2, 2), "");
        CHECK.same("at its fall alone", all("2 * runt 0 2 5", 1, 3, 1, 1, 1, 1), "");
        CHECK.same("one of one sample", all("runt 0 2 5", 1, 2, 1, 1), "2");
        CHECK.same("behind one that was at it", all("runt 0 2 5", 1, 5, 1, 4, 1, 1), "4");
        CHECK.same("next to one another", all("runt 0 -128 127", -128, -128, -128, -128), "");
        CHECK.same("one apart", all("runt 0 126 127", 125, 126, 125, 125), "2");
        CHECK.same("one apart, at it", all("runt 0 126 127", 125, 127, 125, 125), "");
        int[] longer = row(302, 1, 300, 4);
        CHECK.same("longer than the ring is", all("runt 0 2 5", longer), "300");
        longer[1] = 5;
        CHECK.same("its top has left the ring", all("runt 0 2 5", longer), "");
    }

    private static void howOften() {
        CHECK.says("when it has happened so often as told, at that SAMPLE, the next stage begins");
        int[] often = {1, 2, 3, 19, 20};
        for (int n : often) {
            TraceBench x = Check.armed(n + " * rise 0 5; rise 1 5", 0, 0);
            for (int i = 1; i <= n; i++) {
                CHECK.due("happened", x.told(2), i - 1);
                CHECK.due("stage 0", x.told(1), 0);
                Check.come(x, 0, 5);
            }
            CHECK.due(n + " times: stage", x.told(1), 1);
            CHECK.due(n + " times: of the next", x.told(2), 0);
            CHECK.due(n + " times: began", x.told(3), 2 * n - 1);
        }
    }

    private static void fromTheNextSampleOn() {
        CHECK.says("(its EVENT is looked for from the next SAMPLE on)");
        CHECK.same("the same event needs another sample", all("rise 0 5; rise 0 5", 0, 5, 5, 0, 5, 5), "4");
        CHECK.same("both at one sample", all("rise 0 5; rise 0 4", 0, 5, 5, 5), "");
        CHECK.same("the very next", all("rise 0 5; fall 0 5", 0, 5, 0, 0), "2");
        String six = "rise 0 5;fall 0 5;rise 0 5;fall 0 5;rise 0 5;fall 0 5";
        CHECK.same("six stages", all(six, 0, 5, 0, 5, 0, 5, 0, 5), "6");
    }

    private static void whereAStageBegan() {
        CHECK.says("A stage began at the SAMPLE at which the one ahead was done; stage 0 at the first SAMPLE behind arm(), "
            + "or at that at which it was begun again.");
        TraceBench x = new TraceBench();
        Check.trigger(x, "rise 0 5; fall 0 5 within 3; rise 0 9");
        Check.come(x, 0, 0);
        x.arm();
        CHECK.due("it will", x.told(3), 2);
        Check.come(x, 0, 0);
        CHECK.due("stage 0", x.told(3), 2);
        Check.come(x, 5, 5);
        CHECK.due("stage 1", x.told(3), 4);
        Check.come(x, 5, 5);
        CHECK.due("stage 0 again", x.told(1), 0);
        CHECK.due("at", x.told(3), 7);
        Check.come(x, 0, 5);
        CHECK.due("stage 1", x.told(3), 9);
        Check.come(x, 0, 0);
        CHECK.due("stage 2", x.told(1), 2);
        CHECK.due("at", x.told(3), 10);
    }

    private static void within() {
        CHECK.says("A stage with within n that is not done when the SAMPLE n behind that at which it began comes begins "
            + "stage 0 again, at that SAMPLE");
        int[] spans = {1, 2, 3, 10, 199, 200};
        for (int n : spans) {
            for (int behind = Math.max(1, n - 1); behind <= n + 1; behind++) {
                // Stage 0 began at sample 0; the rise comes so many behind it.
                int[] numbers = row(behind + 1 + (behind + 1) % 2, behind, behind + 1, 5);
                TraceBench x = Check.armed("rise 0 5 within " + n, 0, 100);
                Check.come(x, numbers);
                boolean fires = n > 1 && behind != n;
                CHECK.due("within " + n + ", " + behind + " behind", x.told(0), fires ? 2 : 1);
                int last = numbers.length - 1;
                int begun = behind < n ? 0 : n == 1 ? last : 1;
                CHECK.due("within " + n + ", begun again", x.told(9), begun);
                if (!fires) {
                    CHECK.due("within " + n + ", began", x.told(3), n == 1 ? last : n);
                }
            }
        }
        TraceBench x = Check.armed("20 * rise 0 5 within 200", 0, 0);
        for (int i = 0; i < 99; i++) {
            Check.come(x, 0, i % 10 == 0 ? 5 : 0);
        }
        CHECK.due("198 came", x.told(9), 0);
        Check.come(x, 0, 0);
        CHECK.due("200 came", x.told(9), 0);
        Check.come(x, 0, 0);
        CHECK.due("the sample 200 behind came", x.told(9), 1);
        CHECK.due("at", x.told(3), 200);
    }

    private static void withinOfLaterStages() {
        CHECK.says("begins stage 0 again");
        String text = "2 * rise 0 5; rise 0 5; fall 0 5 within 2; rise 0 9";
        TraceBench x = Check.armed(text, 0, 0);
        Check.come(x, 0, 5, 0, 5, 0, 5);
        CHECK.due("stage 2", x.told(1), 2);
        Check.come(x, 5, 5);
        CHECK.due("not stage 1, nor 2", x.told(1), 0);
        CHECK.due("how often", x.told(2), 0);
        CHECK.due("began", x.told(3), 7);
        CHECK.due("begun again", x.told(9), 1);
        TraceBench y = Check.armed(text, 0, 0);
        Check.come(y, 0, 5, 0, 5, 0, 5, 0, 0);
        CHECK.due("done one ahead of it", y.told(1), 3);
        Check.come(y, 0, 0, 0, 0, 0, 0);
        CHECK.due("a stage without within stays", y.told(1), 3);
        TraceBench z = Check.armed("rise 0 5; 2 * fall 0 5 within 4", 0, 0);
        Check.come(z, 0, 5, 0, 5);
        CHECK.due("one of two", z.told(2), 1);
        CHECK.due("the second comes three behind", Check.come(z, 0, 0), 1);
        TraceBench w = Check.armed("rise 0 5; 2 * fall 0 5 within 3", 0, 0);
        Check.come(w, 0, 5, 0, 5);
        CHECK.due("the second comes three behind", Check.come(w, 0, 0), 0);
        CHECK.due("stage", w.told(1), 0);
        CHECK.due("the one that had happened is none", w.told(2), 0);
    }

    private static void notLookedAt() {
        CHECK.says("(what happens at it is not looked at)");
        TraceBench x = Check.armed("2 * rise 0 5 within 3", 0, 0);
        Check.come(x, 0, 5, 0, 5);
        CHECK.due("begun again", x.told(9), 1);
        CHECK.due("neither for the old", x.told(5), 0);
        CHECK.due("nor for the new", x.told(2), 0);
        CHECK.same("stage 0 at it", all("rise 0 5; fall 0 5 within 2", 0, 5, 5, 0, 5, 0), "5");
        CHECK.same("the very next one is", all("rise 0 5 within 2", 0, 0, 0, 5), "3");
    }

    private static void fires() {
        CHECK.says("Behind the last stage it FIRES at that SAMPLE.");
        TraceBench x = Check.armed("rise 0 5; 2 * fall 0 5", 0, 1);
        Check.come(x, 0, 5, 0, 5);
        CHECK.due("not yet", x.told(0), 1);
        Check.come(x, 5, 0);
        CHECK.due("fired", x.told(0), 2);
        CHECK.due("no segment yet", x.told(5), 0);
        Check.come(x, 5, 0);
        CHECK.due("at", x.segment(0, 2), 5);
        CHECK.due("of", x.segment(0, 1), 2);
    }
}
