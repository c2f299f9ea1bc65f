/** What the tests share: each call is compared with what is due, and each difference is printed. */
final class Due {
    interface Call {
        long run();
    }

    static final Class<IllegalArgumentException> ARGUMENT = IllegalArgumentException.class;
    static final Class<IllegalStateException> STATE = IllegalStateException.class;
    static final Class<IndexOutOfBoundsException> INDEX = IndexOutOfBoundsException.class;

    private static int asked = 0;
    private static int wrong = 0;

    private Due() {
    }

    static void is(String call, long got, long want) {
        asked++;
        if (got != want) {
            wrong++;
            System.out.println(call + " answered " + got + ", due is " + want);
        }
    }

    /** The call must throw exactly this class, and leave the digest as it is. */
    static void refused(String call, SegmentTimes x, Class<? extends RuntimeException> due, Call run) {
        long before = x.digest();
        thrown(call, due, run);
        is("digest() after " + call, x.digest(), before);
    }

    /** The call must throw exactly this class, or nothing if this is null. */
    static void thrown(String call, Class<? extends RuntimeException> due, Call run) {
        Class<?> thrown = null;
        try {
            run.run();
        } catch (RuntimeException e) {
            thrown = e.getClass();
        }
        asked++;
        if (thrown != due) {
            wrong++;
            System.out.println(call + " threw " + thrown + ", due is " + due);
        }
    }

    /** Puts a text in the place of the script text. */
    static void write(SegmentTimes x, String text) {
        x.clearText();
        for (int i = 0; i < text.length(); i++) {
            is("append in " + text, x.append(text.charAt(i)), i + 1);
        }
    }

    static void segment(SegmentTimes x, int segment, int a, int b, int x1, int x2, int t1, int t2) {
        int[] due = {a, b, x1, x2, t1, t2};
        for (int what = 0; what < due.length; what++) {
            is("segment(" + segment + ", " + what + ")", x.segment(segment, what), due[what]);
        }
    }

    static void finish() {
        System.out.println(wrong == 0 ? asked + " answers are as due" : wrong + " answers are not as due");
        if (wrong != 0) {
            System.exit(1);
        }
    }
}
