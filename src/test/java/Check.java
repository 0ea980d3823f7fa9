/** What the tests share: counting wrong answers, and short ways to feed texts and samples. */
final class Check {
    private int wrong = 0;
    private int looked = 0;
    private String sentence = "";
    private int lookedBefore = -1;

    /** The document's sentence by which the answers that follow are due; one without answers is not tested. */
    void says(String words) {
        if (looked == lookedBefore) {
            wrong++;
            System.out.println("no answer was looked at for: " + sentence);
        }
        sentence = words;
        lookedBefore = looked;
    }

    void due(String call, long got, long want) {
        looked++;
        if (got != want) {
            wrong++;
            System.out.println(call + " answered " + got + ", due is " + want
                + (sentence.isEmpty() ? "" : " [" + sentence + "]"));
        }
    }

    void same(String call, String got, String want) {
        looked++;
        if (!got.equals(want)) {
            wrong++;
            System.out.println(call + ": " + got + ", due is " + want
                + (sentence.isEmpty() ? "" : " [" + sentence + "]"));
        }
    }

    void finish(String name) {
        says("");
        System.out.println(name + ": " + looked + " answers, " + wrong + " not as due");
        if (wrong != 0 || looked == 0) {
            System.exit(1);
        }
    }

    /** The text is laid on an empty tape, then made the trigger. */
    static int trigger(TraceBench x, String text) {
        lay(x, text);
        return x.trigger();
    }

    static void lay(TraceBench x, String text) {
        for (int i = 0; i < text.length(); i += 8) {
            long v = 0;
            for (int j = i; j < i + 8; j++) {
                v = v << 8 | (j < text.length() ? text.charAt(j) : ' ');
            }
            x.feed(v);
        }
        x.end(text.length());
    }

    void fault(String text, int fault, int place) {
        TraceBench x = new TraceBench();
        due("trigger of '" + text + "'", trigger(x, text), -10 - place);
        due("fault of '" + text + "'", x.fault(), fault);
        due("stages of '" + text + "'", x.told(8), 0);
    }

    void stages(String text, int stages) {
        TraceBench x = new TraceBench();
        due("trigger of '" + text + "'", trigger(x, text), stages);
        due("fault of '" + text + "'", x.fault(), 0);
        due("stages of '" + text + "'", x.told(8), stages);
    }

    /** A bench that is armed with a trigger, and keeps so many samples around those at which it fires. */
    static TraceBench armed(String text, int before, int after) {
        TraceBench x = new TraceBench();
        trigger(x, text);
        x.keep(before, after);
        x.arm();
        return x;
    }

    /** The samples at which its segments fired. */
    static String fired(TraceBench x) {
        StringBuilder all = new StringBuilder();
        for (int k = 0; k < x.told(5); k++) {
            all.append(k == 0 ? "" : " ").append(x.segment(k, 2));
        }
        return all.toString();
    }

    static long sample(int a, int b, int c, int d) {
        return (a & 255L) << 24 | (b & 255L) << 16 | (c & 255L) << 8 | d & 255L;
    }

    /** Two samples of one trace come, 0 on the others. */
    static int comeOn(TraceBench x, int trace, int first, int second) {
        int shift = 24 - 8 * trace;
        return x.come((first & 255L) << 32 + shift | (second & 255L) << shift);
    }

    /** An even number of samples of trace 0 come. */
    static int come(TraceBench x, int... numbers) {
        int segments = -1;
        for (int i = 0; i + 1 < numbers.length; i += 2) {
            segments = x.come(sample(numbers[i], 0, 0, 0) << 32 | sample(numbers[i + 1], 0, 0, 0));
        }
        return segments;
    }

    /** An even number of samples of traces 0 and 1 come. */
    static int come(TraceBench x, int[] first, int[] second) {
        int segments = -1;
        for (int i = 0; i + 1 < first.length; i += 2) {
            segments = x.come(sample(first[i], second[i], 0, 0) << 32 | sample(first[i + 1], second[i + 1], 0, 0));
        }
        return segments;
    }

    /**
     * A bench whose segment 0 is these samples of traces 0 and 1 (2 to 201):
     * trace 3 makes it fire, as early as AFTER lets it.
     */
    static TraceBench withSegment(int[] first, int[] second) {
        int fires = Math.max(1, first.length - 101);
        TraceBench x = armed("rise 3 1", fires, first.length - 1 - fires);
        for (int i = 0; i < first.length; i += 2) {
            int j = i + 1 < first.length ? i + 1 : i;
            x.come(sample(first[i], second[i], 0, i == fires ? 1 : 0) << 32
                | sample(first[j], second[j], 0, j == fires ? 1 : 0));
        }
        return x;
    }

    static TraceBench withSegment(int... first) {
        return withSegment(first, new int[first.length]);
    }

    /** A bench whose segment 0 is one sample alone. */
    static TraceBench withOnePlace(int number) {
        TraceBench x = armed("rise 3 1", 0, 0);
        x.come(sample(number, 0, 0, 1));
        return x;
    }
}
