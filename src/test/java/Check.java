/** Counts the answers that are not the ones that are due. */
final class Check {
    static final long UNKNOWN = -1000000000000001L;
    static final long WRONG_WHAT = -1000000000000002L;

    private static int wrong = 0;

    private Check() {
    }

    static void due(String what, long got, long want) {
        if (got != want) {
            wrong++;
            System.out.println(what + " answered " + got + ", due is " + want);
        }
    }

    static void yes(String what, boolean got) {
        due(what, got ? 1 : 0, 1);
    }

    static void rowThrows(String what, SpanRules x, int key, long time, long value) {
        boolean thrown = false;
        try {
            x.row(key, time, value);
        } catch (ArithmeticException e) {
            thrown = true;
        }
        yes(what + " throws", thrown);
    }

    /** The cells of a FIRING: key, begin, end, how, rows, sum, least, greatest, mix, which. */
    static void firing(String what, SpanRules x, int k, long... want) {
        for (int i = 0; i < want.length; i++) {
            due(what + ", fired(" + k + ", " + i + ")", x.fired(k, i), want[i]);
        }
    }

    /** Of a span 1, 2, 4 to 10: begin, end, rows, sum, least, greatest, mix, fires, rows since. */
    static void span(String what, SpanRules x, int key, int i, long... want) {
        int[] whats = {1, 2, 4, 5, 6, 7, 8, 9, 10};
        for (int w = 0; w < want.length; w++) {
            due(what + ", span(" + key + ", " + i + ", " + whats[w] + ")", x.span(key, i, whats[w]), want[w]);
        }
    }

    /** count(0), count(1) and so on. */
    static void counts(String what, SpanRules x, long... want) {
        for (int i = 0; i < want.length; i++) {
            due(what + ", count(" + i + ")", x.count(i), want[i]);
        }
    }

    /**
     * All that an object tells: its counts, its spans and its FIRINGS. This asks more often than the 512 calls
     * that the document promises; the class counts no calls, and calls that only tell change nothing in it.
     */
    static String told(SpanRules x) {
        StringBuilder text = new StringBuilder();
        for (int what = 0; what < 8; what++) {
            text.append(x.count(what)).append(' ');
        }
        for (int key = 0; key < 8; key++) {
            text.append("\nkey ").append(key).append(": ").append(x.spans(key));
            for (int i = 0; x.span(key, i, 1) != UNKNOWN; i++) {
                text.append("\n  span");
                for (int what : new int[] {1, 2, 4, 5, 6, 7, 8, 9, 10}) {
                    text.append(' ').append(x.span(key, i, what));
                }
            }
        }
        for (int k = 0; k < x.count(5); k++) {
            text.append("\nfired");
            for (int what = 0; what < 10; what++) {
                text.append(' ').append(x.fired(k, what));
            }
        }
        return text.toString();
    }

    static void same(String what, String got, String want) {
        if (!got.equals(want)) {
            wrong++;
            System.out.println(what + ": not the same\n" + got + "\ndue is\n" + want);
        }
    }

    static void end() {
        if (wrong != 0) {
            System.out.println(wrong + " answers are not as due");
            System.exit(1);
        }
    }
}
