import java.util.function.ToLongFunction;

/** Which number a refused call answers, in which order, and that "then nothing changes". */
public final class RefusedTest {
    private static final long TRILLION = 1000000000000L;
    private static final long BILLION = 1000000000L;
    private static final long LAST_MARK = 10000000000000L;
    private static final int COUNTED = 3;
    private static final int MONTHS = 4;
    private static final int OWN = 5;
    private static final long FORBIDDEN = 77;

    public static void main(String[] args) {
        for (int kind = 0; kind <= OWN; kind++) {
            offset(kind);
            lateness(kind);
            trigger(kind);
            clears(kind);
            rule(kind);
            forbid(kind);
            row(kind);
            mark(kind);
            count(kind);
            fired(kind);
            spans(kind);
            span(kind);
            month(kind);
            twins(kind, false);
            twins(kind, true);
        }
        Check.end();
    }

    private static SpanRules made(int kind) {
        return new SpanRules(kind, 5, 3);
    }

    private static long most(int kind) {
        return kind == MONTHS ? 100000000L : TRILLION;
    }

    private static void refused(String what, SpanRules x, ToLongFunction<SpanRules> call, long want) {
        String before = Check.told(x);
        Check.due(what, call.applyAsLong(x), want);
        Check.same(what + " changes nothing", Check.told(x), before);
    }

    /** "OFFSET. 1. -2; -3 a row came already (also a LATE one)." */
    private static void offset(int kind) {
        long[] outside = {Long.MIN_VALUE, -BILLION - 1, BILLION + 1, 1L << 32, Long.MAX_VALUE};
        SpanRules x = made(kind);
        for (long v : outside) {
            refused("offset " + v, x, y -> y.offset(v), -2);
        }
        Check.due("the least", x.offset(-BILLION), 1);
        Check.due("the greatest", x.offset(BILLION), 1);
        Check.due("again", x.offset(0), 1);
        x.row(8, 0, 0);
        x.row(0, most(kind) + 1, 0);
        x.mark(-LAST_MARK);
        Check.due("a refused row came not", x.offset(0), 1);
        x.row(0, 0, 0);
        for (long v : outside) {
            refused("-2 before -3", x, y -> y.offset(v), -2);
        }
        for (long v : new long[] {-BILLION, -1, 0, 1, BILLION}) {
            refused("a row came", x, y -> y.offset(v), -3);
        }
        x.mark(LAST_MARK);
        Check.due("though it went", x.offset(0), -3);
        SpanRules late = made(kind);
        late.mark(LAST_MARK);
        Check.due("a mark is no row", late.offset(0), 1);
        Check.due("late", late.row(0, 0, 0), 0);
        refused("a late row came", late, y -> y.offset(0), -3);
    }

    /** "LATENESS. 1. -2; -3 likewise, or COUNTED." */
    private static void lateness(int kind) {
        long[] outside = {Long.MIN_VALUE, -1, BILLION + 1, 1L << 32, Long.MAX_VALUE};
        SpanRules x = made(kind);
        for (long v : outside) {
            refused("lateness " + v, x, y -> y.lateness(v), -2);
        }
        for (long v : new long[] {BILLION, 1, 0}) {
            Check.due("lateness " + v, x.lateness(v), kind == COUNTED ? -3 : 1);
        }
        x.row(-1, 0, 0);
        Check.due("a refused row came not", x.lateness(0), kind == COUNTED ? -3 : 1);
        x.row(0, 0, 0);
        for (long v : outside) {
            refused("-2 before -3", x, y -> y.lateness(v), -2);
        }
        for (long v : new long[] {0, 1, BILLION}) {
            refused("a row came", x, y -> y.lateness(v), -3);
        }
        SpanRules late = made(kind);
        late.mark(LAST_MARK);
        late.row(0, 0, 0);
        refused("a late row came", late, y -> y.lateness(0), -3);
    }

    /** "EVERY (0 .. 1000), LATELY on or off: 1. -2; -3 COUNTED." */
    private static void trigger(int kind) {
        SpanRules x = made(kind);
        for (int every : new int[] {Integer.MIN_VALUE, -1, 1001, Integer.MAX_VALUE}) {
            refused("trigger " + every, x, y -> y.trigger(every, true), -2);
            refused("trigger " + every, x, y -> y.trigger(every, false), -2);
        }
        int answer = kind == COUNTED ? -3 : 1;
        for (int every : new int[] {0, 1, 1000}) {
            Check.due("trigger " + every, x.trigger(every, false), answer);
            Check.due("trigger " + every, x.trigger(every, true), answer);
            Check.due("the same again", x.trigger(every, true), answer);
        }
        x.row(0, 0, 0);
        Check.due("behind a row", x.trigger(0, true), answer);
    }

    /** "CLEARS on or off: 1; 0 it was so. -3 COUNTED." */
    private static void clears(int kind) {
        SpanRules x = made(kind);
        boolean counted = kind == COUNTED;
        Check.due("it is off at first", x.clears(false), counted ? -3 : 0);
        Check.due("on", x.clears(true), counted ? -3 : 1);
        Check.due("it is on", x.clears(true), counted ? -3 : 0);
        x.row(0, 0, 0);
        Check.due("off behind a row", x.clears(false), counted ? -3 : 1);
        Check.due("it is off", x.clears(false), counted ? -3 : 0);
    }

    /** "The RULE: what it was. -2; -3 not OWN." */
    private static void rule(int kind) {
        SpanRules x = made(kind);
        int[] turns = {0, 1, 2, 2, 1, 1, 0, 2, 0};
        int was = 0;
        for (int r : turns) {
            for (int outside : new int[] {Integer.MIN_VALUE, -1, 3, Integer.MAX_VALUE}) {
                refused("rule " + outside, x, y -> y.rule(outside), -2);
            }
            Check.due("rule " + r, x.rule(r), kind == OWN ? was : -3);
            was = r;
        }
        x.row(0, 0, 0);
        Check.due("behind a row", x.rule(1), kind == OWN ? 0 : -3);
    }

    /** "how many are. -2 the RULE; -3 not OWN; -4." */
    private static void forbid(int kind) {
        SpanRules x = made(kind);
        for (int i = 1; i <= 9; i++) {
            for (int outside : new int[] {Integer.MIN_VALUE, -1, 3, Integer.MAX_VALUE}) {
                refused("rule " + outside, x, y -> y.forbid(outside, 1), -2);
            }
            int answer = i < 9 ? i : -4;
            Check.due("value " + i, x.forbid(1, i), kind == OWN ? answer : -3);
        }
        Check.yes("not forbidden by rule 0", x.row(0, 0, 1) > 0);
        if (kind != OWN) {
            Check.yes("forbidden by nothing", x.row(0, 0, 2) > 0);
        }
    }

    /** "-1; -2 time; ArithmeticException: FORBIDDEN (behind -1, -2)". */
    private static void row(int kind) {
        SpanRules x = made(kind);
        x.forbid(0, FORBIDDEN);
        long most = most(kind);
        for (int key : new int[] {Integer.MIN_VALUE, -1, 8, Integer.MAX_VALUE}) {
            for (long time : new long[] {Long.MIN_VALUE, -most - 1, 0, most + 1, Long.MAX_VALUE}) {
                refused("key " + key, x, y -> y.row(key, time, 1), -1);
                refused("-1 before the throw", x, y -> y.row(key, time, FORBIDDEN), -1);
            }
        }
        for (long time : new long[] {Long.MIN_VALUE, -most - 1, most + 1, 1L << 60, Long.MAX_VALUE}) {
            for (int key = 0; key < 8; key++) {
                int k = key;
                refused("time " + time, x, y -> y.row(k, time, 1), -2);
                refused("-2 before the throw", x, y -> y.row(k, time, FORBIDDEN), -2);
            }
        }
        for (int key = 0; key < 8; key++) {
            Check.yes("the least time", x.row(key, -most, 1) > 0);
            Check.yes("the greatest time", x.row(key, most, 1) > 0);
        }
        String before = Check.told(x);
        if (kind == OWN) {
            Check.rowThrows("forbidden", x, 0, 0, FORBIDDEN);
            Check.same("a throw changes nothing", Check.told(x), before);
            x.mark(LAST_MARK);
            before = Check.told(x);
            Check.rowThrows("forbidden, though it is late", x, 0, 0, FORBIDDEN);
            Check.same("a throw changes nothing", Check.told(x), before);
        } else {
            Check.yes("not own", x.row(0, 0, FORBIDDEN) > 0);
        }
    }

    /** "-2 not -10^13 .. 10^13; -3 it is below THE MARK." */
    private static void mark(int kind) {
        SpanRules x = made(kind);
        x.row(0, 0, 1);
        long[] outside = {Long.MIN_VALUE, -LAST_MARK - 1, LAST_MARK + 1, Long.MAX_VALUE};
        for (long time : new long[] {-LAST_MARK, -LAST_MARK + 1, -7, 0, 50, LAST_MARK - 1, LAST_MARK}) {
            for (long out : outside) {
                refused("mark " + out, x, y -> y.mark(out), -2);
            }
            Check.yes("mark " + time, x.mark(time) >= 0);
            refused("the same", x, y -> y.mark(time), 0);
            if (time > -LAST_MARK) {
                refused("one below", x, y -> y.mark(time - 1), -3);
                refused("the least", x, y -> y.mark(-LAST_MARK), -3);
            }
        }
    }

    /** "7 LATELY ones in all. -2." */
    private static void count(int kind) {
        SpanRules x = made(kind);
        for (int what : new int[] {Integer.MIN_VALUE, -1, 8, Integer.MAX_VALUE}) {
            Check.due("count " + what, x.count(what), -2);
        }
        for (int what = 0; what < 8; what++) {
            Check.due("count " + what + " of a new one", x.count(what), 0);
        }
    }

    /** "-1000000000000001 unknown; -1000000000000002 what." */
    private static void fired(int kind) {
        SpanRules x = new SpanRules(kind, 1, 1);
        int[] wrongWhats = {Integer.MIN_VALUE, -1, 10, 11, Integer.MAX_VALUE};
        for (int firings = 0; firings < 3; firings++) {
            for (int k : new int[] {Integer.MIN_VALUE, -1, firings, firings + 1, 400, Integer.MAX_VALUE}) {
                Check.due("firing " + k + " of " + firings, x.fired(k, 0), Check.UNKNOWN);
                for (int what : wrongWhats) {
                    Check.due("unknown before what", x.fired(k, what), Check.UNKNOWN);
                }
            }
            for (int k = 0; k < firings; k++) {
                Check.due("the first what", x.fired(k, 0), 0);
                Check.due("the last what", x.fired(k, 9), 1);
                for (int what : wrongWhats) {
                    Check.due("what " + what, x.fired(k, what), Check.WRONG_WHAT);
                }
            }
            x.row(0, 1000 * firings, 1);
            Check.due("fires", x.mark(1000 * firings + 500), 1);
        }
    }

    /** "How many spans a KEY has .. -1." */
    private static void spans(int kind) {
        SpanRules x = made(kind);
        for (int key : new int[] {Integer.MIN_VALUE, -1, 8, Integer.MAX_VALUE}) {
            Check.due("key " + key, x.spans(key), -1);
        }
        x.row(7, 0, 1);
        Check.due("key 0", x.spans(0), 0);
        Check.due("key 7", x.spans(7), kind == COUNTED ? 0 : x.count(1));
    }

    /** "-1000000000000001 unknown (also COUNTED); -1000000000000002 what (also 0, 3)." */
    private static void span(int kind) {
        SpanRules x = new SpanRules(kind, 1, 1);
        int[] wrongWhats = {Integer.MIN_VALUE, -1, 0, 3, 11, Integer.MAX_VALUE};
        int[] rightWhats = {1, 2, 4, 5, 6, 7, 8, 9, 10};
        x.row(7, 0, 1);
        x.row(7, 1000, 1);
        for (int what = -1; what <= 11; what++) {
            for (int key : new int[] {Integer.MIN_VALUE, -1, 0, 6, 8, Integer.MAX_VALUE}) {
                Check.due("span of key " + key, x.span(key, 0, what), Check.UNKNOWN);
            }
            for (int i : new int[] {Integer.MIN_VALUE, -1, 2, Integer.MAX_VALUE}) {
                Check.due("span " + i, x.span(7, i, what), Check.UNKNOWN);
            }
        }
        for (int i = 0; i < 2; i++) {
            for (int what : wrongWhats) {
                Check.due("what " + what, x.span(7, i, what), kind == COUNTED ? Check.UNKNOWN : Check.WRONG_WHAT);
            }
            for (int what : rightWhats) {
                long answer = x.span(7, i, what);
                Check.yes("what " + what, kind == COUNTED ? answer == Check.UNKNOWN : answer >= 0);
            }
        }
        x.mark(500);
        Check.due("one went", x.span(7, 1, 1), Check.UNKNOWN);
        x.mark(5000);
        Check.due("all went", x.span(7, 0, 1), Check.UNKNOWN);
        Check.due("unknown before what", x.span(7, 0, 0), Check.UNKNOWN);
    }

    /** "m -3000000 .. 3000000. -2000000000 another one." */
    private static void month(int kind) {
        SpanRules x = made(kind);
        for (int m : new int[] {Integer.MIN_VALUE, -3000001, 3000001, Integer.MAX_VALUE}) {
            Check.due("month " + m, x.month(m), -2000000000);
        }
        // 3,000,000 months are 625 times 400 years
        Check.due("the least", x.month(-3000000), -625 * 146097);
        Check.due("the greatest", x.month(3000000), 625 * 146097);
        Check.due("one above the least", x.month(-2999999), -625 * 146097 + 31);
        Check.due("one below the greatest", x.month(2999999), 625 * 146097 - 31);
        Check.due("0", x.month(0), 0);
        x.offset(5);
        Check.due("the offset counts for nothing", x.month(0), 0);
    }

    /** Two objects with the same calls; one of them gets refused calls in between, and must not show it. */
    private static void twins(int kind, boolean clears) {
        SpanRules x = made(kind);
        SpanRules y = made(kind);
        String run = "twins of kind " + kind;
        for (SpanRules z : new SpanRules[] {x, y}) {
            z.offset(2);
            z.lateness(6);
            z.trigger(3, true);
            z.clears(clears);
            z.rule(1);
            for (int i = 0; i < 8; i++) {
                z.forbid(1, FORBIDDEN + i);
            }
        }
        refusedBeforeARow(x, kind);
        long mark = -LAST_MARK;
        for (int i = 0; i < 60; i++) {
            int key = i * 5 % 3;
            long time = i * 7 % 11 + i;
            long value = i * 13 % 17 - 8;
            Check.due(run + ", row " + i, x.row(key, time, value), y.row(key, time, value));
            refusedBehindARow(x, kind, mark, i);
            Check.same(run + " behind row " + i, Check.told(x), Check.told(y));
            if (i % 4 == 3) {
                mark = i;
                Check.due(run + ", mark " + i, x.mark(mark), y.mark(mark));
                refusedBehindARow(x, kind, mark, i);
                Check.same(run + " behind mark " + i, Check.told(x), Check.told(y));
            }
        }
        Check.due(run + ", rule", x.rule(0), y.rule(0));
        Check.due(run + ", clears", x.clears(true), y.clears(true));
    }

    private static void refusedBeforeARow(SpanRules x, int kind) {
        x.offset(BILLION + 1);
        x.offset(-BILLION - 1);
        x.lateness(-1);
        x.lateness(BILLION + 1);
        x.row(0, most(kind) + 1, 1);
        x.row(8, 0, 1);
    }

    private static void refusedBehindARow(SpanRules x, int kind, long mark, int i) {
        Check.due("offset", x.offset(i % 5), -3);
        Check.due("lateness", x.lateness(i), -3);
        Check.due("trigger", x.trigger(-1, false), -2);
        Check.due("trigger", x.trigger(1001, false), -2);
        Check.due("rule", x.rule(3), -2);
        Check.due("rule", x.rule(-1), -2);
        Check.due("forbid", x.forbid(3, i % 17 - 8), -2);
        Check.due("forbid", x.forbid(-1, i % 17 - 8), -2);
        Check.due("forbid", x.forbid(1, i % 17 - 8), kind == OWN ? -4 : -3);
        Check.due("row", x.row(8, i, 1), -1);
        Check.due("row", x.row(-1, i, 1), -1);
        Check.due("row", x.row(0, most(kind) + 1, 1), -2);
        Check.due("row", x.row(0, -most(kind) - 1, 1), -2);
        Check.due("mark", x.mark(LAST_MARK + 1), -2);
        if (mark > -LAST_MARK) {
            Check.due("mark", x.mark(mark - 1), -3);
        }
        if (kind == COUNTED) {
            Check.due("trigger", x.trigger(1, true), -3);
            Check.due("clears", x.clears(true), -3);
        }
        if (kind == OWN) {
            Check.rowThrows("row", x, 0, i, FORBIDDEN);
        } else {
            Check.due("rule", x.rule(2), -3);
        }
    }
}
