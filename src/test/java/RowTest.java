import java.time.LocalDate;

/** Promise 8: row, with the spans that each KIND makes, what is LATE, and what FIRES by a row. */
public final class RowTest {
    private static final long TRILLION = 1000000000000L;

    public static void main(String[] args) {
        refused();
        forbidden();
        beside();
        sliding();
        gaps();
        gapsThatFired();
        months();
        everyDayOf400Years();
        own();
        late();
        early();
        lately();
        cleared();
        roomForRows();
        roomForSpans();
        Check.end();
    }

    private static void refused() {
        for (int kind = 0; kind <= 5; kind++) {
            SpanRules x = new SpanRules(kind, 10, 10);
            long most = kind == 4 ? 100000000L : TRILLION;
            Check.due("key below", x.row(-1, 0, 0), -1);
            Check.due("key above", x.row(8, 0, 0), -1);
            Check.due("-1 before -2", x.row(8, most + 1, 0), -1);
            Check.due("time above", x.row(0, most + 1, 0), -2);
            Check.due("time below", x.row(0, -most - 1, 0), -2);
            Check.due("time far below", x.row(0, Long.MIN_VALUE, 0), -2);
            Check.due("time far above", x.row(0, Long.MAX_VALUE, 0), -2);
            Check.counts("nothing changed", x, 0, 0, 0, 0, 0, 0, 0, 0);
            Check.due("most", x.row(7, most, 0), 1);
            Check.due("least", x.row(0, -most, 0), 1);
        }
    }

    private static void forbidden() {
        SpanRules x = new SpanRules(5, 10, 10);
        x.forbid(0, 5);
        Check.due("-1 before it", x.row(8, 0, 5), -1);
        Check.due("-2 before it", x.row(0, TRILLION + 1, 5), -2);
        Check.rowThrows("forbidden", x, 0, 0, 5);
        Check.counts("nothing changed", x, 0, 0, 0, 0, 0, 0, 0, 0);
        Check.due("no row came", x.offset(1), 1);
        x.mark(TRILLION);
        Check.rowThrows("before late", x, 0, 0, 5);
        Check.due("not counted", x.count(3), 0);
    }

    private static void beside() {
        SpanRules x = new SpanRules(0, 10, 0);
        x.offset(3);
        Check.due("row", x.row(2, 13, 7), 1);
        Check.due("its last time", x.row(2, 22, -1), 1);
        Check.due("the next", x.row(2, 23, 1), 1);
        Check.due("before 0", x.row(2, -8, 1), 1);
        Check.due("of another key", x.row(3, 15, 1), 1);
        Check.due("spans", x.spans(2), 3);
        Check.span("-17 to -7", x, 2, 0, -17, -7, 1, 1, 1, 1, 1, 0, 1);
        Check.span("13 to 23", x, 2, 1, 13, 23, 2, 6, -1, 7, 31 * 7 - 1, 0, 2);
        Check.span("23 to 33", x, 2, 2, 23, 33, 1, 1, 1, 1, 1, 0, 1);
        Check.span("other key", x, 3, 0, 13, 23, 1);
    }

    private static void sliding() {
        SpanRules x = new SpanRules(1, 10, 4);
        x.offset(1);
        Check.due("three", x.row(0, 9, 1), 3);
        Check.span("first", x, 0, 0, 1, 11);
        Check.span("second", x, 0, 1, 5, 15);
        Check.span("third", x, 0, 2, 9, 19);
        Check.due("two", x.row(0, 11, 1), 2);
        Check.due("no new ones", x.spans(0), 3);
        Check.span("not in the first", x, 0, 0, 1, 11, 1);
        x = new SpanRules(1, 2, 5);
        Check.due("in it", x.row(0, 6, 1), 1);
        Check.due("between spans", x.row(0, 7, 1), 0);
        Check.counts("late", x, 1, 1, 0, 1, 2);
    }

    private static void gaps() {
        SpanRules x = new SpanRules(2, 5, 0);
        x.row(0, 10, 1);
        x.row(0, 15, 2);
        Check.due("an end is no time of a span", x.spans(0), 2);
        x.row(1, 12, 9);
        Check.due("of another key", x.spans(0), 2);
        Check.due("both become one", x.row(0, 14, 3), 1);
        Check.span("one", x, 0, 0, 10, 20, 3, 6, 1, 3, (1 * 31 + 3) * 31 + 2, 0, 3);
        x.row(0, 6, 4);
        Check.span("begins sooner", x, 0, 0, 6, 20, 4);
        x.row(0, 1, 4);
        Check.due("touches only", x.spans(0), 2);
        x.row(0, 17, 4);
        Check.span("ends later", x, 0, 1, 6, 22, 5);
        x.row(0, 5, 4);
        Check.span("all", x, 0, 0, 1, 22, 7);
    }

    private static void gapsThatFired() {
        SpanRules x = new SpanRules(2, 10, 0);
        x.lateness(100);
        x.trigger(2, true);
        x.row(0, 0, 1);
        x.row(0, 1, 2);
        Check.firing("early", x, 0, 0, 0, 11, 0, 2, 3, 1, 2, 33, 1);
        x.row(0, 20, 4);
        x.mark(11);
        Check.firing("at its end", x, 1, 0, 0, 11, 1, 2, 3, 1, 2, 33, 2);
        // 10 joins 0 to 11 alone
        x.row(0, 10, 8);
        Check.span("joined", x, 0, 0, 0, 20, 3, 11, 1, 8, (1 * 31 + 2) * 31 + 8, 2, 1);
        // 15 joins this and 20 to 30: one row put in each since they fired, and its own
        Check.due("three become one", x.row(0, 15, 16), 1);
        Check.firing("counts the rows of all", x, 2, 0, 0, 30, 0, 5, 31);
        Check.due("one more than the most", x.fired(2, 9), 3);
        Check.due("fires anew at its new end", x.mark(30), 1);
        Check.firing("at its end", x, 3, 0, 0, 30, 1, 5, 31);
        x.row(0, 5, 32);
        Check.firing("lately", x, 4, 0, 0, 30, 2, 6, 63);
        Check.due("not again", x.mark(40), 0);
        x.trigger(0, false);
        x.row(0, -9, 64);
        Check.due("lately is off", x.count(2), 5);
        Check.due("one of them fired at this end", x.mark(41), 0);
        Check.span("it goes on", x, 0, 0, -9, 30, 7, 127, 1, 64);
    }

    private static void months() {
        SpanRules x = new SpanRules(4, 1, 0);
        x.row(0, 58, 1);
        x.row(0, 59, 1);
        Check.span("February 1970", x, 0, 0, 31, 59);
        Check.span("March 1970", x, 0, 1, 59, 90);
        x = new SpanRules(4, 1, 0);
        x.row(0, 11016, 1);
        Check.span("February 2000", x, 0, 0, 10988, 11017);
        x.row(0, -25509, 1);
        Check.span("February 1900", x, 0, 0, -25536, -25508);
        x = new SpanRules(4, 3, 0);
        x.offset(-1000000000L);
        x.row(0, 0, 1);
        // -10^9 is 2 above a whole three, so spans begin in March, June, September, December
        Check.span("far offset", x, 0, 0, -31, 59);
    }

    private static void everyDayOf400Years() {
        LocalDate first = LocalDate.of(1799, 1, 1);
        for (int i = 0; i < 4800; i++) {
            SpanRules x = new SpanRules(4, 1, 0);
            long begin = first.plusMonths(i).toEpochDay();
            long end = first.plusMonths(i + 1).toEpochDay();
            for (long day = begin; day < end; day++) {
                x.row(0, day, 1);
            }
            Check.due("one span of " + begin, x.spans(0), 1);
            Check.span("month of " + begin, x, 0, 0, begin, end, end - begin);
        }
    }

    private static void own() {
        SpanRules x = new SpanRules(5, 6, 4);
        x.offset(1);
        x.row(0, 1, 1);
        x.row(0, 6, 1);
        x.row(0, 7, 1);
        x.row(0, 10, 1);
        x.row(0, 0, 1);
        Check.span("a step before", x, 0, 0, -3, 1, 1);
        Check.span("size", x, 0, 1, 1, 7, 2);
        Check.span("step", x, 0, 2, 7, 11, 2);
        x.rule(1);
        x.row(1, 2, 0);
        x.row(1, 6, -1);
        Check.span("by size", x, 1, 0, 1, 7, 1);
        Check.span("by step", x, 1, 1, 5, 9, 1);
        x.row(1, 2, -1);
        Check.span("by end behind begin", x, 1, 0, 1, 5, 1);
        Check.span("by end behind begin", x, 1, 1, 1, 7, 1);
        long[][] want = {{0, 0, 1}, {1, 1, 2}, {2, 2, 4}, {3, 2, 4}, {4, 4, 8}, {8, 8, 16},
            {-1, -1, 0}, {-2, -2, -1}, {-3, -4, -2}, {-4, -4, -2}, {-5, -8, -4}, {-8, -8, -4}, {-9, -16, -8}};
        for (long[] w : want) {
            SpanRules y = new SpanRules(5, 6, 4);
            y.rule(2);
            y.offset(100);
            y.row(0, 100 + w[0], 1);
            Check.span("doubling " + w[0], y, 0, 0, 100 + w[1], 100 + w[2]);
        }
        SpanRules z = new SpanRules(5, 2, 2);
        z.row(0, 2, 1);
        z.rule(2);
        z.row(0, 3, 1);
        Check.due("one span, by two rules", z.spans(0), 1);
        Check.span("both rows", z, 0, 0, 2, 4, 2);
    }

    private static void late() {
        SpanRules x = new SpanRules(1, 10, 5);
        x.mark(10);
        Check.due("only the span that is not gone", x.row(0, 7, 1), 1);
        Check.span("it", x, 0, 0, 5, 15, 1);
        Check.due("both gone", x.row(0, 4, 1), 0);
        Check.counts("late", x, 1, 1, 0, 1, 2);
        SpanRules g = new SpanRules(2, 10, 0);
        g.row(0, 15, 1);
        g.mark(20);
        Check.due("gone alone, but not what it became", g.row(0, 8, 1), 1);
        Check.span("it", g, 0, 0, 8, 25, 2);
        g.mark(24);
        Check.due("gone", g.row(1, 14, 1), 0);
        Check.due("no span of it", g.spans(1), 0);
        SpanRules c = new SpanRules(3, 2, 2);
        c.mark(5);
        Check.due("at the mark", c.row(0, 5, 1), 1);
        Check.due("below the mark", c.row(0, 4, 1), 0);
        Check.counts("counted", c, 1, 0, 0, 1, 2);
    }

    private static void early() {
        SpanRules x = new SpanRules(1, 10, 5);
        x.trigger(2, true);
        x.row(3, 7, 5);
        Check.due("one row each", x.count(2), 0);
        x.row(3, 6, 4);
        Check.firing("by begin", x, 0, 3, 0, 10, 0, 2, 9, 4, 5, 4 * 31 + 5, 1);
        Check.firing("by begin", x, 1, 3, 5, 15, 0, 2, 9, 4, 5, 4 * 31 + 5, 1);
        x.row(3, 12, 1);
        x.row(3, 13, 1);
        Check.firing("since it fired", x, 2, 3, 5, 15, 0, 4, 11, 1, 5, ((4 * 31 + 5) * 31 + 1) * 31 + 1, 2);
        Check.firing("since it is there", x, 3, 3, 10, 20, 0, 2, 2, 1, 1, 32, 1);
        Check.counts("early", x, 4, 3, 4, 0, 4, 4, 4, 0);
        x.mark(10);
        x.trigger(1, false);
        x.row(3, 9, 1);
        Check.due("early only if the end is above the mark", x.count(6), 5);
    }

    private static void lately() {
        SpanRules x = new SpanRules(0, 10, 0);
        x.lateness(20);
        x.mark(10);
        x.row(0, 9, 5);
        Check.firing("lately", x, 0, 0, 0, 10, 2, 1, 5, 5, 5, 5, 1);
        Check.due("no firing at its end behind it", x.mark(11), 0);
        x.trigger(5, true);
        x.row(0, 8, 6);
        Check.firing("always", x, 1, 0, 0, 10, 2, 2, 11, 5, 6, 6 * 31 + 5, 2);
        x.trigger(5, false);
        Check.due("put", x.row(0, 8, 6), 1);
        Check.due("lately is off", x.count(2), 2);
        x.row(1, 8, 6);
        Check.due("then at its end", x.mark(11), 1);
        Check.firing("then at its end", x, 2, 1, 0, 10, 1, 1, 6);
        Check.counts("lately", x, 4, 2, 3, 0, 4, 3, 0, 2);
    }

    private static void cleared() {
        SpanRules x = new SpanRules(0, 10, 0);
        x.lateness(20);
        x.trigger(2, true);
        x.row(0, 5, 3);
        x.row(0, 4, 2);
        x.clears(true);
        x.row(0, 3, 7);
        x.row(0, 2, -7);
        Check.firing("of those since", x, 1, 0, 0, 10, 0, 2, 0, -7, 7, -7 * 31 + 7, 2);
        Check.span("has them all", x, 0, 0, 0, 10, 4, 5, -7, 7, ((-7 * 31 + 7) * 31 + 2) * 31 + 3, 2, 0);
        x.mark(10);
        Check.firing("without rows", x, 2, 0, 0, 10, 1, 0, 0, 0, 0, 0, 3);
        x.row(0, 9, 1);
        Check.firing("lately", x, 3, 0, 0, 10, 2, 1, 1, 1, 1, 1, 4);
        x.clears(false);
        x.row(0, 9, 1);
        Check.firing("of all", x, 4, 0, 0, 10, 2, 6, 7);
        SpanRules g = new SpanRules(2, 10, 0);
        g.clears(true);
        g.trigger(2, true);
        g.row(0, 0, 1);
        g.row(0, 1, 2);
        g.row(0, 20, 4);
        g.row(0, 10, 8);
        Check.span("one untold", g, 0, 0, 0, 20, 3, 11, 1, 8, (1 * 31 + 2) * 31 + 8, 1, 1);
        g.row(0, 15, 16);
        Check.firing("what none of them told", g, 1, 0, 0, 30, 0, 3, 28, 4, 16, (8 * 31 + 16) * 31 + 4, 2);
    }

    private static void roomForRows() {
        SpanRules x = new SpanRules(0, 10, 0);
        for (int i = 0; i < 300; i++) {
            Check.due("row", x.row(i % 8, 100, i), 1);
        }
        Check.due("a 301st row", x.row(0, 100, 1), -4);
        Check.counts("refused", x, 300, 8, 0, 0, 300);
        x.mark(105);
        Check.due("a late one is late", x.row(0, 90, 1), 0);
        x.mark(110);
        Check.due("room again", x.row(0, 110, 1), 1);
        SpanRules c = new SpanRules(3, 400, 1);
        for (int i = 0; i < 300; i++) {
            c.row(0, i, 1);
        }
        Check.due("waiting", c.row(0, 1, 1), -4);
        c.mark(1000);
        Check.due("numbered", c.row(1, 1000, 1), -4);
    }

    private static void roomForSpans() {
        SpanRules x = new SpanRules(2, 5, 0);
        for (int i = 0; i < 200; i++) {
            Check.due("row", x.row(0, 10 * i, 1), 1);
        }
        Check.due("a 201st span", x.row(0, 2000, 1), -4);
        Check.due("of another key", x.row(1, 0, 1), -4);
        Check.counts("refused", x, 200, 200, 0, 0, 200);
        Check.due("joins one", x.row(0, 4, 1), 1);
        Check.due("joins two", x.row(0, 7, 1), 1);
        Check.due("one less", x.spans(0), 199);
        Check.due("room for one", x.row(1, 0, 1), 1);
        Check.due("no more", x.row(1, 5, 1), -4);
        SpanRules s = new SpanRules(1, 10, 1);
        for (int i = 0; i < 19; i++) {
            s.row(0, 100 * i, 1);
        }
        s.row(0, 1805, 1);
        Check.due("195 spans", s.count(1), 195);
        Check.due("six new ones", s.row(0, 1811, 1), -4);
        Check.due("five new ones", s.row(0, 1810, 1), 10);
        Check.due("200 spans", s.count(1), 200);
    }
}
