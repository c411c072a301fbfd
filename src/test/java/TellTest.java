/** Promises 10 to 13: count, fired, spans, span. */
public final class TellTest {
    public static void main(String[] args) {
        counts();
        firedArguments();
        firingsKept();
        wrapping();
        spans();
        spanArguments();
        Check.end();
    }

    private static void counts() {
        SpanRules x = new SpanRules(0, 10, 0);
        x.lateness(5);
        x.trigger(1, true);
        x.row(0, 5, 1);
        x.row(1, 15, 1);
        x.mark(12);
        x.row(0, 6, 1);
        x.mark(15);
        x.row(0, 6, 1);
        Check.counts("all", x, 1, 1, 4, 1, 4, 4, 2, 1);
        Check.due("below", x.count(-1), -2);
        Check.due("above", x.count(8), -2);
        Check.due("far", x.count(Integer.MIN_VALUE), -2);
    }

    private static void firedArguments() {
        SpanRules x = new SpanRules(0, 10, 0);
        Check.due("none", x.fired(0, 0), Check.UNKNOWN);
        Check.due("unknown before what", x.fired(0, 10), Check.UNKNOWN);
        x.row(0, 5, 1);
        x.mark(10);
        Check.due("k below", x.fired(-1, 0), Check.UNKNOWN);
        Check.due("k above", x.fired(1, 0), Check.UNKNOWN);
        Check.due("k far", x.fired(Integer.MAX_VALUE, 0), Check.UNKNOWN);
        Check.due("what below", x.fired(0, -1), Check.WRONG_WHAT);
        Check.due("what above", x.fired(0, 10), Check.WRONG_WHAT);
        Check.firing("all", x, 0, 0, 0, 10, 1, 1, 1, 1, 1, 1, 1);
    }

    private static void firingsKept() {
        SpanRules x = new SpanRules(1, 16, 1);
        x.trigger(1, true);
        for (int i = 0; i < 25; i++) {
            x.row(0, 0, i);
        }
        Check.due("in all", x.count(2), 400);
        Check.due("kept", x.count(5), 400);
        Check.due("the first", x.fired(0, 4), 1);
        x.row(0, 0, 25);
        Check.due("in all", x.count(2), 416);
        Check.due("kept", x.count(5), 400);
        Check.firing("the first ones went", x, 0, 0, -15, 1, 0, 2);
        Check.firing("the last", x, 399, 0, 0, 16, 0, 26);
        Check.due("no more", x.fired(400, 0), Check.UNKNOWN);
    }

    private static void wrapping() {
        SpanRules x = new SpanRules(0, 10, 0);
        x.row(0, 5, Long.MAX_VALUE);
        x.row(0, 5, Long.MAX_VALUE);
        x.row(0, 4, Long.MIN_VALUE);
        long mix = (31 * Long.MIN_VALUE + Long.MAX_VALUE) * 31 + Long.MAX_VALUE;
        long sum = Long.MAX_VALUE + Long.MAX_VALUE + Long.MIN_VALUE;
        Check.span("wrapped", x, 0, 0, 0, 10, 3, sum, Long.MIN_VALUE, Long.MAX_VALUE, mix, 0, 3);
        x.mark(10);
        Check.firing("wrapped", x, 0, 0, 0, 10, 1, 3, sum, Long.MIN_VALUE, Long.MAX_VALUE, mix, 1);
    }

    private static void spans() {
        SpanRules x = new SpanRules(0, 10, 0);
        x.row(7, 5, 1);
        x.row(7, 15, 1);
        Check.due("key below", x.spans(-1), -1);
        Check.due("key above", x.spans(8), -1);
        Check.due("none", x.spans(0), 0);
        Check.due("two", x.spans(7), 2);
        SpanRules c = new SpanRules(3, 1, 1);
        Check.due("key below", c.spans(-1), -1);
        Check.due("key above", c.spans(8), -1);
        c.row(7, 5, 1);
        c.mark(6);
        Check.due("numbered, though it went", c.spans(7), 1);
    }

    private static void spanArguments() {
        SpanRules x = new SpanRules(0, 10, 0);
        x.row(0, 25, 1);
        x.row(0, 5, 2);
        x.row(0, 15, 3);
        Check.span("by begin", x, 0, 0, 0, 10, 1, 2, 2, 2, 2, 0, 1);
        Check.span("by begin", x, 0, 1, 10, 20, 1, 3, 3, 3, 3, 0, 1);
        Check.span("by begin", x, 0, 2, 20, 30, 1, 1, 1, 1, 1, 0, 1);
        Check.due("key below", x.span(-1, 0, 1), Check.UNKNOWN);
        Check.due("key above", x.span(8, 0, 1), Check.UNKNOWN);
        Check.due("i below", x.span(0, -1, 1), Check.UNKNOWN);
        Check.due("i above", x.span(0, 3, 1), Check.UNKNOWN);
        Check.due("unknown before what", x.span(0, 3, 0), Check.UNKNOWN);
        int[] wrong = {Integer.MIN_VALUE, -1, 0, 3, 11, Integer.MAX_VALUE};
        for (int what : wrong) {
            Check.due("what " + what, x.span(0, 0, what), Check.WRONG_WHAT);
        }
        x.mark(10);
        Check.span("the first one went", x, 0, 0, 10, 20, 1);
        SpanRules c = new SpanRules(3, 5, 5);
        c.row(0, 1, 1);
        c.mark(2);
        Check.due("counted", c.span(0, 0, 1), Check.UNKNOWN);
        Check.due("counted, what", c.span(0, 0, 0), Check.UNKNOWN);
    }
}
