/** What the tests share: counting wrong answers, and short ways to feed texts and samples. */
final class Check {
    private int wrong = 0;
    private int looked = 0;

    void due(String call, long got, long want) {
        looked++;
        if (got != want) {
            wrong++;
            System.out.println(call + " answered " + got + ", due is " + want);
        }
    }

    void finish(String name) {
        System.out.println(name + ": " + looked + " answers, " + wrong + " not as due");
        if (wrong != 0 || looked == 0) {
            System.exit(1);
        }
    }

    /** The text is laid on an empty tape, then made the trigger. */
    static int trigger(TraceBench x, String text) {
        lay(x, text);
        return x.trigger();
    }

    static void lay(TraceBench x, String text) {
        for (int i = 0; i < text.length(); i += 8) {
            long v = 0;
            for (int j = i; j < i + 8; j++) {
                v = v << 8 | (j < text.length() ? text.charAt(j) : ' ');
            }
            x.feed(v);
        }
        x.end(text.length());
    }

    void fault(String text, int fault, int place) {
        TraceBench x = new TraceBench();
        due("trigger of '" + text + "'", trigger(x, text), -10 - place);
        due("fault of '" + text + "'", x.fault(), fault);
        due("stages of '" + text + "'", x.told(8), 0);
    }

    void stages(String text, int stages) {
        TraceBench x = new TraceBench();
        due("trigger of '" + text + "'", trigger(x, text), stages);
        due("fault of '" + text + "'", x.fault(), 0);
        due("stages of '" + text + "'", x.told(8), stages);
    }

    static long sample(int a, int b, int c, int d) {
        return (a & 255L) << 24 | (b & 255L) << 16 | (c & 255L) << 8 | d & 255L;
    }

    /** An even number of samples of trace 0 come. */
    static int come(TraceBench x, int... numbers) {
        int segments = -1;
        for (int i = 0; i + 1 < numbers.length; i += 2) {
            segments = x.come(sample(numbers[i], 0, 0, 0) << 32 | sample(numbers[i + 1], 0, 0, 0));
        }
        return segments;
    }

    /** An even number of samples of traces 0 and 1 come. */
    static int come(TraceBench x, int[] first, int[] second) {
        int segments = -1;
        for (int i = 0; i + 1 < first.length; i += 2) {
            segments = x.come(sample(first[i], second[i], 0, 0) << 32 | sample(first[i + 1], second[i + 1], 0, 0));
        }
        return segments;
    }

    /**
     * A bench whose segment 0 is these samples (101 at most), of which the first two are always
     * as told here: trace 3 makes it fire at the second one.
     */
    static TraceBench withSegment(int[] first, int[] second) {
        TraceBench x = new TraceBench();
        trigger(x, "rise 3 1");
        x.keep(1, first.length - 2);
        x.arm();
        for (int i = 0; i < first.length; i += 2) {
            int j = i + 1 < first.length ? i + 1 : i;
            x.come(sample(first[i], second[i], 0, 0) << 32 | sample(first[j], second[j], 0, i == 0 ? 1 : 0));
        }
        return x;
    }

    static TraceBench withSegment(int... first) {
        return withSegment(first, new int[first.length]);
    }
}
