/** Promise 9: mark, with what FIRES AT ITS END and what goes, for spans of time and COUNTED ones. */
public final class MarkTest {
    private static final long MOST = 10000000000000L;

    public static void main(String[] args) {
        refused();
        orderOfFirings();
        firesOnce();
        spansAndRowsGo();
        counted();
        countedWithStepBelowSize();
        countedWithStepAboveSize();
        countedTies();
        Check.end();
    }

    private static void refused() {
        for (int kind = 0; kind <= 5; kind++) {
            SpanRules x = new SpanRules(kind, 10, 10);
            Check.due("below", x.mark(-MOST - 1), -2);
            Check.due("above", x.mark(MOST + 1), -2);
            Check.due("far", x.mark(Long.MAX_VALUE), -2);
            Check.due("first", x.mark(5), 0);
            Check.due("back", x.mark(4), -3);
            Check.due("-2 before -3", x.mark(-MOST - 1), -2);
            Check.due("the same", x.mark(5), 0);
            Check.due("most", x.mark(MOST), 0);
        }
    }

    private static void orderOfFirings() {
        SpanRules x = new SpanRules(5, 6, 3);
        x.rule(1);
        x.row(4, 1, 5);
        x.row(4, 4, -5);
        x.row(2, 4, 1);
        x.row(6, 1, -1);
        x.row(1, 7, 1);
        Check.due("four ends", x.mark(11), 4);
        Check.firing("end first", x, 0, 6, 0, 3, 1);
        Check.firing("then key", x, 1, 2, 0, 6, 1);
        Check.firing("then begin", x, 2, 4, 0, 6, 1, 1, 5, 5, 5, 5, 1);
        Check.firing("then begin", x, 3, 4, 3, 6, 1, 1, -5, -5, -5, -5, 1);
        Check.due("the end is not above the mark", x.mark(12), 1);
    }

    private static void firesOnce() {
        SpanRules x = new SpanRules(0, 10, 0);
        x.lateness(10);
        x.row(0, 5, 1);
        Check.due("before its end", x.mark(9), 0);
        Check.due("at its end", x.mark(10), 1);
        Check.due("once", x.mark(10), 0);
        Check.due("once", x.mark(19), 0);
        Check.counts("it stays", x, 1, 1, 1);
        Check.due("goes", x.mark(20), 0);
        Check.counts("it went", x, 0, 0, 1);
        x.row(0, 25, 1);
        Check.due("fires and goes", x.mark(100), 1);
        Check.counts("it went", x, 0, 0, 2);
    }

    private static void spansAndRowsGo() {
        SpanRules x = new SpanRules(1, 10, 5);
        x.row(0, 7, 1);
        x.row(0, 3, 1);
        Check.counts("two rows", x, 2, 3);
        Check.due("-5 to 5", x.mark(5), 1);
        Check.counts("both rows are in 0 to 10", x, 2, 2);
        Check.due("0 to 10", x.mark(10), 1);
        Check.counts("7 is in 5 to 15", x, 1, 1);
        Check.due("5 to 15", x.mark(15), 1);
        Check.counts("none", x, 0, 0, 3);
        SpanRules g = new SpanRules(2, 5, 0);
        g.row(0, 0, 1);
        g.row(0, 10, 1);
        g.mark(7);
        Check.span("the other stays", g, 0, 0, 10, 15, 1);
        Check.counts("one went", g, 1, 1, 1);
    }

    private static void counted() {
        SpanRules x = new SpanRules(3, 2, 2);
        x.row(1, 30, 3);
        x.row(1, 10, 1);
        x.row(1, 20, 2);
        x.row(0, 40, 7);
        x.row(0, 20, 8);
        Check.due("waiting", x.spans(1), 0);
        Check.due("the mark is not above 20", x.mark(20), 0);
        Check.due("one numbered", x.spans(1), 1);
        Check.counts("all kept", x, 5, 0);
        Check.due("both keys", x.mark(41), 2);
        Check.firing("by keys", x, 0, 0, 0, 2, 1, 2, 15, 7, 8, 8 * 31 + 7, 1);
        Check.firing("by keys", x, 1, 1, 0, 2, 1, 2, 3, 1, 2, 1 * 31 + 2, 1);
        Check.counts("one is left", x, 1, 0, 2, 0, 5, 2, 0, 0);
        Check.due("numbered in all", x.spans(1), 3);
        Check.due("unknown span", x.span(1, 0, 1), Check.UNKNOWN);
        x.row(1, 41, 9);
        Check.due("the next", x.mark(50), 1);
        Check.firing("the next", x, 2, 1, 2, 4, 1, 2, 12, 3, 9, 3 * 31 + 9, 1);
        Check.counts("none is left", x, 0, 0, 3);
    }

    private static void countedWithStepBelowSize() {
        SpanRules x = new SpanRules(3, 3, 1);
        for (int i = 0; i < 5; i++) {
            x.row(0, i, i + 1);
        }
        Check.due("three spans", x.mark(5), 3);
        Check.firing("first", x, 0, 0, 0, 3, 1, 3, 6, 1, 3);
        Check.firing("second", x, 1, 0, 1, 4, 1, 3, 9, 2, 4);
        Check.firing("third", x, 2, 0, 2, 5, 1, 3, 12, 3, 5, (3 * 31 + 4) * 31 + 5, 1);
        Check.due("rows 3 and 4 are waited for", x.count(0), 2);
        x.row(0, 5, 6);
        Check.due("one more", x.mark(6), 1);
        Check.firing("fourth", x, 3, 0, 3, 6, 1, 3, 15);
        Check.due("rows 4 and 5", x.count(0), 2);
    }

    private static void countedWithStepAboveSize() {
        SpanRules x = new SpanRules(3, 2, 4);
        for (int i = 0; i < 5; i++) {
            x.row(0, i, i);
        }
        Check.due("0 to 2", x.mark(4), 1);
        Check.due("rows 2 and 3 are of no span", x.count(0), 1);
        Check.due("no more", x.mark(5), 0);
        Check.due("row 4 is of 4 to 6", x.count(0), 1);
        Check.due("numbered", x.spans(0), 5);
        x.row(0, 5, 5);
        x.mark(6);
        Check.firing("4 to 6", x, 1, 0, 4, 6, 1, 2, 9);
        Check.due("none", x.count(0), 0);
    }

    private static void countedTies() {
        SpanRules x = new SpanRules(3, 3, 3);
        x.row(0, 5, 1);
        x.row(0, 5, 2);
        x.row(0, 4, 3);
        x.row(0, 5, 4);
        x.mark(6);
        Check.firing("as they came", x, 0, 0, 0, 3, 1, 3, 6, 1, 3, (3 * 31 + 1) * 31 + 2, 1);
    }
}
