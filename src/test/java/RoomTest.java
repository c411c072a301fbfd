/** What is full, one before it, and what goes then: rows, spans, FORBIDDEN VALUES, FIRINGS. */
public final class RoomTest {
    private static final int BESIDE = 0;
    private static final int SLIDING = 1;
    private static final int GAPS = 2;
    private static final int COUNTED = 3;
    private static final int MONTHS = 4;
    private static final int OWN = 5;

    public static void main(String[] args) {
        for (int kind = BESIDE; kind <= OWN; kind++) {
            rows(kind);
            roomAgain(kind);
        }
        lateBeforeNoRoom();
        countedRowsThatStay();
        countedSpansTakeNoRoom();
        for (int kind : new int[] {BESIDE, GAPS, MONTHS, OWN}) {
            spans(kind);
        }
        spansOfManyKeys();
        slidingSpans();
        slidingSpansThatAreGone();
        gapsThatBecomeOne();
        forbiddenValues();
        firings();
        firingsOfCounted();
        firingsByOneMark();
        Check.end();
    }

    private static void refused(String what, SpanRules x, int key, long time, long value) {
        String before = Check.told(x);
        Check.due(what, x.row(key, time, value), -4);
        Check.same(what + " changes nothing", Check.told(x), before);
    }

    /** "300 at most are kept": "would be a 301st row". */
    private static void rows(int kind) {
        SpanRules x = new SpanRules(kind, 10, 10);
        for (int i = 0; i < 299; i++) {
            x.row(i % 8, 5, i);
        }
        Check.due("299 rows of kind " + kind, x.count(0), 299);
        Check.due("the 300th row", x.row(7, 5, 1), 1);
        Check.due("300 rows", x.count(0), 300);
        for (int key = 0; key < 8; key++) {
            refused("a 301st row", x, key, 5, 1);
            refused("a 301st row, elsewhere", x, key, 50000, 1);
        }
        Check.due("-1 before -4", x.row(8, 5, 1), -1);
        Check.due("-2 before -4", x.row(0, Long.MAX_VALUE, 1), -2);
        Check.due("rows that came", x.count(4), 300);
    }

    private static void roomAgain(int kind) {
        SpanRules x = new SpanRules(kind, 1, 1);
        for (int i = 0; i < 300; i++) {
            x.row(0, i < 150 ? 5 : 5000, i);
        }
        refused("full", x, 0, 5000, 1);
        x.mark(1000);
        Check.due("half of them went", x.count(0), 150);
        for (int i = 0; i < 150; i++) {
            Check.due("room again", x.row(0, 5000, i), 1);
        }
        refused("full again", x, 0, 5000, 1);
        x.mark(1000000);
        Check.due("all went", x.count(0), 0);
        Check.due("room again", x.row(0, 1000000, 1), 1);
    }

    /** "-4 it is not LATE, and would be a 301st row". */
    private static void lateBeforeNoRoom() {
        for (int kind = BESIDE; kind <= OWN; kind++) {
            SpanRules x = new SpanRules(kind, 1, 1);
            x.mark(1000);
            for (int i = 0; i < 300; i++) {
                x.row(0, 2000, 1);
            }
            Check.due("late", x.row(0, 5, 1), 0);
            Check.due("counted", x.count(3), 1);
            refused("not late", x, 0, 2000, 1);
        }
        SpanRules x = new SpanRules(OWN, 1, 1);
        for (int i = 0; i < 300; i++) {
            x.row(0, 2000, 1);
        }
        x.forbid(0, 7);
        Check.rowThrows("forbidden before no room", x, 0, 2000, 7);
        Check.counts("nothing changed", x, 300, 1, 0, 0, 300);
    }

    private static void countedRowsThatStay() {
        SpanRules x = new SpanRules(COUNTED, 301, 1);
        for (int i = 0; i < 300; i++) {
            x.row(0, i, 1);
        }
        Check.due("one is missing", x.mark(1000), 0);
        Check.counts("all are numbered and kept", x, 300, 0);
        refused("a span that never fires", x, 0, 1000, 1);
        SpanRules y = new SpanRules(COUNTED, 300, 300);
        for (int i = 0; i < 300; i++) {
            y.row(0, i, i);
        }
        Check.due("all are there", y.mark(300), 1);
        Check.firing("all", y, 0, 0, 0, 300, 1, 300, 299 * 150, 0, 299);
        Check.due("none is left", y.count(0), 0);
    }

    /** "1 spans kept (COUNTED: 0)": 300 rows that begin 300 spans are no 201st span. */
    private static void countedSpansTakeNoRoom() {
        SpanRules x = new SpanRules(COUNTED, 65536, 1);
        for (int i = 0; i < 300; i++) {
            Check.due("row", x.row(i % 8, i, 1), 1);
        }
        x.mark(1000);
        Check.counts("no spans", x, 300, 0, 0);
    }

    /** "200 at most are kept": "or make a 201st span". */
    private static void spans(int kind) {
        SpanRules x = new SpanRules(kind, 1, 1);
        for (int i = 0; i < 199; i++) {
            x.row(0, 40L * i, 1);
        }
        Check.due("199 spans of kind " + kind, x.count(1), 199);
        Check.due("the 200th", x.row(0, 40L * 199, 1), 1);
        Check.due("200 spans", x.count(1), 200);
        refused("a 201st span", x, 0, 40L * 200, 1);
        refused("of another key", x, 1, 0, 1);
        Check.due("into one that is there", x.row(0, 40L * 199, 1), 1);
        Check.due("into one that is there", x.row(0, 0, 1), 1);
        Check.counts("200 spans", x, 202, 200, 0, 0, 202);
        // the months of kind 4 end here too
        x.mark(62);
        int left = x.count(1);
        Check.yes("some went", left < 200);
        for (int i = left; i < 200; i++) {
            Check.due("room again", x.row(0, 40L * (200 + i), 1), 1);
        }
        refused("full again", x, 1, 40L * 200, 1);
    }

    private static void spansOfManyKeys() {
        SpanRules x = new SpanRules(BESIDE, 10, 0);
        for (int i = 0; i < 200; i++) {
            x.row(i % 8, 10L * (i / 8), 1);
        }
        for (int key = 0; key < 8; key++) {
            Check.due("25 of each key", x.spans(key), 25);
            refused("of all keys together", x, key, 250, 1);
            Check.due("into the last one", x.row(key, 249, 1), 1);
        }
    }

    private static void slidingSpans() {
        SpanRules x = new SpanRules(SLIDING, 16, 1);
        for (int i = 0; i < 12; i++) {
            x.row(0, 100L * i, 1);
        }
        Check.due("192 spans", x.count(1), 192);
        refused("16 new ones", x, 0, 5000, 1);
        refused("9 new ones", x, 0, 1109, 1);
        Check.due("8 new ones", x.row(0, 1108, 1), 16);
        Check.due("200 spans", x.count(1), 200);
        refused("one new one", x, 0, 1109, 1);
        Check.due("no new one", x.row(0, 1108, 1), 16);
        Check.due("no new one", x.row(0, 1100, 1), 16);
    }

    /** Only the spans that are not GONE would be made. */
    private static void slidingSpansThatAreGone() {
        SpanRules x = new SpanRules(SLIDING, 16, 1);
        x.mark(1000);
        for (int i = 0; i < 12; i++) {
            x.row(0, 2000 + 100L * i, 1);
        }
        refused("9 that are not gone", x, 1, 993, 1);
        Check.due("8 that are not gone", x.row(1, 992, 1), 8);
        Check.due("200 spans", x.count(1), 200);
        Check.due("15 of the 16 are gone, one is there", x.row(1, 985, 1), 1);
        refused("one is not there", x, 2, 985, 1);
        Check.due("all are gone", x.row(2, 984, 1), 0);
    }

    private static void gapsThatBecomeOne() {
        SpanRules x = new SpanRules(GAPS, 10, 0);
        for (int i = 0; i < 200; i++) {
            x.row(0, 15L * i, 1);
        }
        Check.due("200 spans", x.count(1), 200);
        refused("touches one only", x, 0, 15L * 199 + 10, 1);
        Check.due("becomes one with it", x.row(0, 15L * 199 + 9, 1), 1);
        Check.due("200 spans", x.count(1), 200);
        Check.due("two and it become one", x.row(0, 8, 1), 1);
        Check.due("199 spans", x.count(1), 199);
        Check.due("the 200th", x.row(1, 0, 1), 1);
        refused("a 201st", x, 1, 10, 1);
    }

    /** "8 at most each": "-4. (One that is already: as many as there are.)" */
    private static void forbiddenValues() {
        SpanRules x = new SpanRules(OWN, 1, 1);
        long[] values = {0, -1, 1, Long.MIN_VALUE, Long.MAX_VALUE, 5, 6, 7};
        for (int i = 0; i < 8; i++) {
            Check.due("forbid", x.forbid(2, values[i]), i + 1);
            Check.due("already", x.forbid(2, values[0]), i + 1);
            Check.due("already", x.forbid(2, values[i]), i + 1);
        }
        Check.due("a ninth", x.forbid(2, 8), -4);
        for (long value : values) {
            Check.due("already, of eight", x.forbid(2, value), 8);
        }
        Check.due("another rule has room", x.forbid(1, 8), 1);
        x.rule(2);
        Check.due("the ninth is not forbidden", x.row(0, 0, 8), 1);
        for (long value : values) {
            Check.rowThrows("value " + value, x, 0, 0, value);
        }
    }

    /** "400 FIRINGS are kept; the first ones go." */
    private static void firings() {
        SpanRules x = new SpanRules(SLIDING, 10, 1);
        x.trigger(1, true);
        for (int i = 0; i < 39; i++) {
            x.row(0, 0, i);
        }
        x.row(1, 5, 100);
        Check.counts("400", x, 40, 20, 400, 0, 40, 400, 400, 0);
        Check.firing("the first", x, 0, 0, -9, 1, 0, 1, 0);
        Check.firing("the last", x, 399, 1, 5, 15, 0, 1, 100);
        Check.due("no more", x.fired(400, 0), Check.UNKNOWN);
        Check.due("one at the mark", x.mark(1), 1);
        Check.counts("401", x, 40, 19, 401, 0, 40, 400, 400, 0);
        Check.firing("the second", x, 0, 0, -8, 2, 0, 1, 0);
        Check.firing("the last", x, 399, 0, -9, 1, 1, 39);
        Check.due("no more", x.fired(400, 0), Check.UNKNOWN);
        Check.due("nor before", x.fired(-1, 0), Check.UNKNOWN);
        for (int i = 0; i < 40; i++) {
            x.row(2, 100, i);
        }
        Check.counts("801", x, 80, 29, 801, 0, 80, 400, 800, 0);
        Check.firing("all others went", x, 0, 2, 91, 101, 0, 1, 0, 0, 0, 0, 1);
        Check.firing("the last", x, 399, 2, 100, 110, 0, 40, 39 * 20, 0, 39);
    }

    private static void firingsOfCounted() {
        SpanRules x = new SpanRules(COUNTED, 1, 1);
        for (int i = 0; i < 300; i++) {
            x.row(0, i, i);
        }
        Check.due("300 at once", x.mark(300), 300);
        for (int i = 300; i < 401; i++) {
            x.row(0, i, i);
        }
        Check.due("100", x.mark(400), 100);
        Check.firing("all are kept", x, 0, 0, 0, 1, 1, 1, 0, 0, 0, 0, 1);
        Check.due("one more", x.mark(401), 1);
        Check.counts("401", x, 0, 0, 401, 0, 401, 400, 0, 0);
        for (int k = 0; k < 400; k++) {
            Check.firing("firing", x, k, 0, k + 1, k + 2, 1, 1, k + 1, k + 1, k + 1, k + 1, 1);
        }
    }

    private static void firingsByOneMark() {
        SpanRules x = new SpanRules(BESIDE, 1, 0);
        for (int i = 199; i >= 0; i--) {
            x.row(i % 8, i, i);
        }
        Check.due("200 at once", x.mark(200), 200);
        Check.counts("all went", x, 0, 0, 200, 0, 200, 200, 0, 0);
        for (int k = 0; k < 200; k++) {
            Check.firing("firing", x, k, k % 8, k, k + 1, 1, 1, k, k, k, k, 1);
        }
    }
}
