/** 'Terms' of the document: "A ROW comes", "THE MARK comes to a time" and "FIRING", sentence by sentence. */
public final class ComesTest {
    private static final long TRILLION = 1000000000000L;
    private static final long BILLION = 1000000000L;
    private static final long LAST_MARK = 10000000000000L;
    private static final int BESIDE = 0;
    private static final int SLIDING = 1;
    private static final int GAPS = 2;
    private static final int COUNTED = 3;
    private static final int MONTHS = 4;
    private static final int OWN = 5;

    public static void main(String[] args) {
        countedLate();
        goneByLateness();
        goneByTheMostLateness();
        onlyThoseNotGone();
        goneOfWhatItBecame();
        lateIsDroppedAndCounted();
        putByBeginThenEnd();
        earlyAboveTheMark();
        earlyAtEvery();
        earlyOfTheMostRows();
        everyZero();
        latelyAtTheMark();
        latelyOff();
        oneMadeOfSeveralCountsAll();
        firesAtItsEnd();
        notBehindLately();
        orderAtTheMark();
        goneGoWithRows();
        aRowStaysWhileASpanHasIt();
        madeOfSeveralHasNotFired();
        madeOfSeveralHasFired();
        countedSpanThatHasAllItsRows();
        countedByKeysThenBegin();
        countedRowsGo();
        toldOfAllRows();
        toldOfThoseSince();
        toldOfNone();
        clearsByTurns();
        clearedOneMadeOfSeveral();
        clearedAmongMany();
        oneMoreThanTheMost();
        newOnesBeginAnew();
        newOnesBehindGapsBeginAnew();
        othersHaveNothingOfIt();
        Check.end();
    }

    /** A span from 0 to 10 of key 0, which stays until 110. */
    private static SpanRules staying(int kind) {
        SpanRules x = new SpanRules(kind, 10, 10);
        x.lateness(100);
        return x;
    }

    /** "COUNTED: LATE if its TIME is below THE MARK." */
    private static void countedLate() {
        SpanRules x = new SpanRules(COUNTED, 2, 2);
        x.mark(5);
        Check.due("below", x.row(0, 4, 1), 0);
        Check.due("at it", x.row(0, 5, 1), 1);
        Check.due("above", x.row(0, 6, 1), 1);
        x.mark(TRILLION);
        Check.due("below the last time", x.row(0, TRILLION - 1, 1), 0);
        Check.due("the last time", x.row(0, TRILLION, 1), 1);
        x.mark(TRILLION + 1);
        Check.due("every time", x.row(0, TRILLION, 1), 0);
        x.mark(LAST_MARK);
        Check.due("every time", x.row(0, TRILLION, 1), 0);
        Check.due("late ones", x.count(3), 4);
    }

    /** "a span is GONE if its END + LATENESS is not above THE MARK". */
    private static void goneByLateness() {
        for (int kind : new int[] {BESIDE, SLIDING, GAPS, OWN}) {
            SpanRules x = new SpanRules(kind, 10, 10);
            x.lateness(3);
            x.mark(12);
            Check.due("13 is above 12", x.row(0, 0, 1), 1);
            x.mark(13);
            Check.due("it went", x.spans(0), 0);
            Check.due("13 is not above 13", x.row(0, 0, 1), 0);
            x.mark(14);
            Check.due("13 is not above 14", x.row(0, 0, 1), 0);
        }
        SpanRules m = new SpanRules(MONTHS, 1, 0);
        m.lateness(3);
        m.mark(33);
        Check.due("days", m.row(0, 0, 1), 1);
        m.mark(34);
        Check.due("days", m.row(0, 0, 1), 0);
    }

    private static void goneByTheMostLateness() {
        SpanRules x = new SpanRules(BESIDE, 10, 0);
        x.lateness(BILLION);
        x.mark(BILLION + 9);
        Check.due("not gone", x.row(0, 0, 1), 1);
        x.mark(BILLION + 10);
        Check.due("gone", x.row(0, 0, 1), 0);
        SpanRules far = new SpanRules(BESIDE, 65536, 0);
        far.lateness(BILLION);
        far.row(0, TRILLION, 1);
        Check.due("all end", far.mark(LAST_MARK), 1);
        Check.due("gone", far.row(0, TRILLION, 1), 0);
        Check.counts("gone", far, 0, 0, 1, 1, 2);
    }

    /** "of the spans that it would be in those count that are not GONE". */
    private static void onlyThoseNotGone() {
        SpanRules x = new SpanRules(SLIDING, 16, 4);
        x.lateness(1);
        int[] spansOfMark = {4, 4, 3, 3, 3, 3, 2, 2, 2, 2, 1, 1, 1, 1, 0};
        // the spans of 0 end at 4, 8, 12 and 16
        for (int mark = 3; mark <= 17; mark++) {
            x.mark(mark);
            Check.due("at mark " + mark, x.row(0, 0, 1), spansOfMark[mark - 3]);
        }
    }

    /** "(GAPS: of what it became; if that is, spans stay as they were)". */
    private static void goneOfWhatItBecame() {
        SpanRules x = new SpanRules(GAPS, 10, 0);
        x.lateness(2);
        x.row(0, 20, 1);
        x.mark(31);
        Check.due("11 to 21 became 11 to 30", x.row(0, 11, 2), 1);
        Check.span("one", x, 0, 0, 11, 30, 2);
        Check.due("1 to 11 touches it only", x.row(0, 1, 3), 0);
        Check.span("as it was", x, 0, 0, 11, 30, 2);
        Check.due("2 to 12 is of it", x.row(0, 2, 3), 1);
        Check.span("one", x, 0, 0, 2, 30, 3);
        Check.due("of another key", x.row(1, 19, 3), 0);
        Check.due("19 to 29 is gone, 20 to 30 is not", x.row(1, 20, 3), 1);
        x.mark(32);
        Check.counts("all gone", x, 0, 0);
        Check.due("gone alone", x.row(0, 20, 1), 0);
        Check.due("no span", x.spans(0), 0);
        Check.due("not gone", x.row(0, 21, 1), 1);
    }

    /** "A LATE one is dropped, and counted." */
    private static void lateIsDroppedAndCounted() {
        for (int kind = BESIDE; kind <= OWN; kind++) {
            SpanRules x = new SpanRules(kind, 10, 10);
            x.trigger(1, true);
            x.mark(1000);
            for (int i = 1; i <= 3; i++) {
                Check.due("late", x.row(0, 0, 1), 0);
                Check.counts("kind " + kind, x, 0, 0, 0, i, i, 0, 0, 0);
            }
            Check.due("no span", x.spans(0), 0);
            Check.due("it came", x.offset(0), -3);
            Check.due("it came", x.lateness(0), -3);
        }
    }

    /** "it is put into each of these by BEGIN, then END; each then FIRES". */
    private static void putByBeginThenEnd() {
        SpanRules x = new SpanRules(SLIDING, 10, 4);
        x.trigger(1, true);
        x.lateness(100);
        x.row(0, 9, 5);
        x.mark(14);
        x.row(0, 9, 6);
        long[][] beginsAndHow = {{0, 0}, {4, 0}, {8, 0}, {0, 1}, {4, 1}, {0, 2}, {4, 2}, {8, 0}};
        Check.due("all", x.count(2), beginsAndHow.length);
        for (int k = 0; k < beginsAndHow.length; k++) {
            Check.due("begin of " + k, x.fired(k, 1), beginsAndHow[k][0]);
            Check.due("how " + k, x.fired(k, 3), beginsAndHow[k][1]);
        }
    }

    /** "EARLY, if its END is above THE MARK". */
    private static void earlyAboveTheMark() {
        for (int kind : new int[] {BESIDE, SLIDING, GAPS, OWN}) {
            SpanRules x = staying(kind);
            x.trigger(1, true);
            x.mark(9);
            x.row(0, 0, 1);
            Check.firing("10 is above 9", x, 0, 0, 0, 10, 0, 1);
            x.mark(10);
            x.row(0, 0, 1);
            Check.firing("10 is not above 10", x, 2, 0, 0, 10, 2, 2);
            Check.counts("one each", x, 2, 1, 3, 0, 2, 3, 1, 1);
        }
    }

    /** "when the rows put into it since it last FIRED (or since it is there) are EVERY or more". */
    private static void earlyAtEvery() {
        SpanRules x = staying(BESIDE);
        x.trigger(3, true);
        int[] earlyOfRow = {0, 0, 1, 1, 1, 2, 2, 2, 3};
        for (int i = 0; i < earlyOfRow.length; i++) {
            x.row(0, 5, 1);
            Check.due("row " + i, x.count(6), earlyOfRow[i]);
            Check.due("since", x.span(0, 0, 10), (i + 1) % 3);
        }
        x.row(0, 5, 1);
        x.row(0, 5, 1);
        x.trigger(1, true);
        Check.due("nothing fires by the trigger", x.count(6), 3);
        x.row(0, 5, 1);
        Check.due("more than every", x.count(6), 4);
        Check.firing("of all rows", x, 3, 0, 0, 10, 0, 12, 12, 1, 1);
        x.row(1, 5, 1);
        Check.due("every is 1: each row", x.count(6), 5);
        x.trigger(2, true);
        x.row(0, 5, 1);
        x.row(0, 15, 1);
        Check.due("each span has its own", x.count(6), 5);
        x.row(0, 5, 1);
        Check.due("the one", x.count(6), 6);
        x.row(0, 15, 1);
        Check.due("the other", x.count(6), 7);
    }

    /** The most that EVERY can be are more rows than are kept. */
    private static void earlyOfTheMostRows() {
        SpanRules x = staying(BESIDE);
        x.trigger(300, true);
        SpanRules never = staying(BESIDE);
        never.trigger(1000, true);
        for (int i = 0; i < 299; i++) {
            x.row(0, 5, 1);
            never.row(0, 5, 1);
        }
        Check.due("299 rows", x.count(6), 0);
        x.row(0, 5, 1);
        never.row(0, 5, 1);
        Check.due("300 rows", x.count(6), 1);
        Check.due("never", never.count(6), 0);
        Check.due("since", never.span(0, 0, 10), 300);
    }

    /** "and EVERY is above 0". */
    private static void everyZero() {
        SpanRules x = staying(BESIDE);
        x.trigger(0, true);
        for (int i = 0; i < 5; i++) {
            x.row(0, 5, 1);
        }
        Check.due("no early one", x.count(2), 0);
        x.mark(10);
        x.row(0, 5, 1);
        Check.counts("lately none the less", x, 6, 1, 2, 0, 6, 2, 0, 1);
    }

    /** "LATELY, if its END is not above THE MARK (always". */
    private static void latelyAtTheMark() {
        SpanRules x = staying(BESIDE);
        x.mark(10);
        x.trigger(1000, true);
        for (int i = 1; i <= 3; i++) {
            x.row(0, 5, 1);
            Check.due("every row", x.count(7), i);
            Check.firing("which", x, i - 1, 0, 0, 10, 2, i, i, 1, 1);
            Check.due("which", x.fired(i - 1, 9), i);
        }
        x.mark(109);
        x.row(0, 5, 1);
        Check.due("until it is gone", x.count(7), 4);
        x.mark(110);
        x.row(0, 5, 1);
        Check.due("no more", x.count(7), 4);
    }

    /** "but if LATELY is off)". */
    private static void latelyOff() {
        SpanRules x = staying(BESIDE);
        x.trigger(1, false);
        x.mark(10);
        Check.due("put all the same", x.row(0, 5, 1), 1);
        Check.due("no firing, not early either", x.count(2), 0);
        Check.due("since", x.span(0, 0, 10), 1);
        Check.due("at its end", x.mark(10), 1);
        Check.due("put all the same", x.row(0, 5, 1), 1);
        Check.due("not again", x.mark(11), 0);
        Check.due("since", x.span(0, 0, 10), 1);
        x.trigger(0, true);
        x.row(0, 5, 1);
        Check.firing("on again: of all", x, 1, 0, 0, 10, 2, 3, 3, 1, 1);
    }

    /** "(One made of several by a gap counts all rows of them as put that were since they last FIRED.)" */
    private static void oneMadeOfSeveralCountsAll() {
        SpanRules x = staying(GAPS);
        x.trigger(3, true);
        x.row(0, 0, 1);
        x.row(0, 0, 1);
        x.row(0, 0, 1);
        x.row(0, 0, 1);
        Check.due("one fired", x.count(6), 1);
        x.row(0, 18, 1);
        Check.due("one row since in each", x.span(0, 0, 10) + x.span(0, 1, 10), 2);
        x.row(0, 9, 1);
        Check.firing("three since", x, 1, 0, 0, 28, 0, 6);
        Check.due("none since", x.span(0, 0, 10), 0);
        SpanRules y = staying(GAPS);
        y.trigger(4, true);
        y.row(0, 0, 1);
        y.row(0, 18, 1);
        y.row(0, 9, 1);
        Check.due("three are not four", y.count(6), 0);
        Check.due("three since", y.span(0, 0, 10), 3);
    }

    /** "each span .. whose END is not above THE MARK, FIRES AT ITS END". */
    private static void firesAtItsEnd() {
        for (int kind : new int[] {BESIDE, SLIDING, GAPS, OWN}) {
            SpanRules x = staying(kind);
            x.row(0, 0, 1);
            Check.due("10 is above 9", x.mark(9), 0);
            Check.due("10 is not above 10", x.mark(10), 1);
            Check.firing("at its end", x, 0, 0, 0, 10, 1, 1, 1, 1, 1, 1, 1);
            Check.due("once", x.mark(10), 0);
            Check.due("once", x.mark(109), 0);
            Check.due("once", x.mark(LAST_MARK), 0);
        }
        SpanRules early = staying(BESIDE);
        early.trigger(1, true);
        early.row(0, 0, 1);
        Check.due("one that fired early", early.mark(10), 1);
        Check.firing("which", early, 1, 0, 0, 10, 1, 1, 1, 1, 1, 1, 2);
    }

    /** "each span that has not FIRED AT ITS END or LATELY". */
    private static void notBehindLately() {
        SpanRules x = staying(BESIDE);
        x.mark(10);
        x.row(0, 0, 1);
        x.row(0, 1, 1);
        Check.due("lately", x.count(7), 2);
        Check.due("not at its end", x.mark(10), 0);
        Check.due("not at its end", x.mark(50), 0);
        x.trigger(0, false);
        x.row(0, 0, 1);
        Check.due("not at its end", x.mark(60), 0);
    }

    /** "by END, then KEY, then BEGIN". */
    private static void orderAtTheMark() {
        SpanRules x = new SpanRules(OWN, 8, 4);
        x.rule(1);
        x.row(5, 0, 1);
        x.row(5, 4, -1);
        x.row(5, 0, -1);
        x.row(3, 4, -1);
        x.row(3, 0, 1);
        x.row(0, 8, 1);
        x.row(7, 1, -1);
        x.row(0, 8, -1);
        long[][] endKeyBegin = {{4, 5, 0}, {4, 7, 0}, {8, 3, 0}, {8, 3, 4}, {8, 5, 0}, {8, 5, 4}, {12, 0, 8}, {16, 0, 8}};
        Check.due("all", x.mark(16), endKeyBegin.length);
        for (int k = 0; k < endKeyBegin.length; k++) {
            Check.firing("number " + k, x, k, endKeyBegin[k][1], endKeyBegin[k][2], endKeyBegin[k][0], 1);
        }
    }

    /** "then those that are GONE go, with rows that no span has any more." */
    private static void goneGoWithRows() {
        for (int kind : new int[] {BESIDE, SLIDING, GAPS, OWN}) {
            SpanRules x = new SpanRules(kind, 10, 10);
            x.lateness(3);
            x.row(0, 0, 1);
            x.row(0, 20, 2);
            x.mark(12);
            Check.counts("13 is above 12", x, 2, 2);
            x.mark(13);
            Check.counts("13 is not above 13", x, 1, 1);
            Check.span("the other", x, 0, 0, 20, 30, 1, 2, 2, 2, 2, 0, 1);
            Check.due("fires and goes at once", x.mark(33), 1);
            Check.counts("none", x, 0, 0, 2);
        }
    }

    private static void aRowStaysWhileASpanHasIt() {
        SpanRules x = new SpanRules(SLIDING, 16, 4);
        x.row(0, 0, 1);
        x.row(0, 3, 1);
        x.row(0, 7, 1);
        // 0 and 3 are in spans that end at 4, 8, 12, 16; 7 is in those that end at 8, 12, 16, 20
        int[][] rowsAndSpans = {{4, 3, 4}, {8, 3, 3}, {12, 3, 2}, {15, 3, 2}, {16, 1, 1}, {19, 1, 1}, {20, 0, 0}};
        Check.counts("at first", x, 3, 5);
        for (int[] want : rowsAndSpans) {
            x.mark(want[0]);
            Check.counts("at mark " + want[0], x, want[1], want[2]);
        }
        SpanRules partly = new SpanRules(SLIDING, 16, 4);
        partly.mark(8);
        Check.due("two are gone", partly.row(0, 0, 1), 2);
        partly.mark(16);
        Check.counts("gone", partly, 0, 0, 2);
    }

    /** "(A span made of several by a gap, of which one FIRED AT ITS END, has not, if its END is above THE MARK.)" */
    private static void madeOfSeveralHasNotFired() {
        SpanRules x = staying(GAPS);
        x.row(0, 0, 1);
        Check.due("at its end", x.mark(10), 1);
        x.row(0, 1, 2);
        Check.counts("11 is above 10", x, 2, 1, 1);
        Check.due("anew", x.mark(11), 1);
        Check.firing("anew", x, 1, 0, 0, 11, 1, 2, 3, 1, 2, 33, 2);
        Check.due("once", x.mark(12), 0);
        SpanRules y = staying(GAPS);
        y.row(0, 0, 1);
        y.row(0, 18, 1);
        y.mark(10);
        y.row(0, 9, 1);
        Check.due("with one that had not", y.mark(27), 0);
        Check.due("at its end", y.mark(28), 1);
        Check.firing("at its end", y, 1, 0, 0, 28, 1, 3, 3, 1, 1, 31 * 32 + 1, 2);
    }

    /** The same, where its END is not above THE MARK: one that FIRED AT ITS END has. */
    private static void madeOfSeveralHasFired() {
        SpanRules x = staying(GAPS);
        x.row(0, 5, 1);
        x.mark(15);
        x.trigger(0, false);
        x.row(0, 0, 1);
        Check.due("has fired at its end", x.mark(15), 0);
        Check.due("nor later", x.mark(20), 0);
        x.row(0, -5, 1);
        Check.due("nor later", x.mark(21), 0);
        x.trigger(0, true);
        x.row(0, 4, 1);
        Check.firing("lately", x, 1, 0, -5, 15, 2, 4, 4, 1, 1);
        Check.due("which", x.fired(1, 9), 2);
        SpanRules y = staying(GAPS);
        y.trigger(0, false);
        y.mark(20);
        y.row(0, 0, 1);
        y.row(0, 5, 1);
        Check.due("none of them had", y.mark(20), 1);
        Check.firing("at its end", y, 0, 0, 0, 15, 1, 2);
        // -12 joins -20 to -10 and -3 to 7, of which only the one that was there before the mark fired
        for (long first : new long[] {-20, -3}) {
            SpanRules z = staying(GAPS);
            z.trigger(0, false);
            z.row(0, first, 1);
            Check.due("the one", z.mark(20), 1);
            z.row(0, -23 - first, 1);
            z.row(0, -12, 1);
            Check.span("of both", z, 0, 0, -20, 7, 3);
            Check.due("one of them fired", z.mark(20), 0);
        }
    }

    /** "each span that has all its rows then FIRES AT ITS END". */
    private static void countedSpanThatHasAllItsRows() {
        SpanRules x = new SpanRules(COUNTED, 3, 3);
        x.row(0, 0, 1);
        x.row(0, 1, 2);
        Check.due("two of three", x.mark(10), 0);
        x.row(0, 10, 4);
        x.row(1, 10, 4);
        Check.due("the third waits", x.mark(10), 0);
        Check.due("three", x.mark(11), 1);
        Check.firing("three", x, 0, 0, 0, 3, 1, 3, 7, 1, 4, (1 * 31 + 2) * 31 + 4, 1);
        Check.due("it went", x.mark(11), 0);
        Check.counts("at its end", x, 1, 0, 1, 0, 4, 1, 0, 0);
    }

    /** "by KEYS, then BEGIN". */
    private static void countedByKeysThenBegin() {
        SpanRules x = new SpanRules(COUNTED, 2, 1);
        for (int i = 0; i < 3; i++) {
            x.row(7, 0, 1);
            x.row(4, 10 - i, 1);
            x.row(0, 20, 1);
        }
        long[][] keyAndBegin = {{0, 0}, {0, 1}, {4, 0}, {4, 1}, {7, 0}, {7, 1}};
        Check.due("all", x.mark(21), keyAndBegin.length);
        for (int k = 0; k < keyAndBegin.length; k++) {
            Check.firing("number " + k, x, k, keyAndBegin[k][0], keyAndBegin[k][1], keyAndBegin[k][1] + 2, 1, 2);
        }
    }

    /** "COUNTED spans go when they FIRED; rows when no span that has not could have them." */
    private static void countedRowsGo() {
        int[][] sizeStepAndKept = {
            // of one to seven rows, how many are kept
            {1, 1, 0, 0, 0, 0, 0, 0, 0},
            {3, 1, 1, 2, 2, 2, 2, 2, 2},
            {3, 2, 1, 2, 1, 2, 1, 2, 1},
            {3, 3, 1, 2, 0, 1, 2, 0, 1},
            {2, 4, 1, 0, 0, 0, 1, 0, 0},
            {1, 3, 0, 0, 0, 0, 0, 0, 0},
            {4, 3, 1, 2, 3, 1, 2, 3, 1},
        };
        for (int[] run : sizeStepAndKept) {
            SpanRules x = new SpanRules(COUNTED, run[0], run[1]);
            for (int i = 0; i < 7; i++) {
                x.row(3, i, 1);
                Check.due("waits", x.count(0), (i == 0 ? 0 : run[1 + i]) + 1);
                x.mark(i + 1);
                Check.due("size " + run[0] + ", step " + run[1] + ", row " + i, x.count(0), run[2 + i]);
                Check.due("numbered", x.spans(3), i + 1);
                Check.due("no spans", x.count(1), 0);
            }
        }
    }

    /** "its CONTENTS are told: of all ROWS that it has". */
    private static void toldOfAllRows() {
        SpanRules x = staying(BESIDE);
        x.trigger(2, true);
        for (int i = 1; i <= 5; i++) {
            x.row(0, 0, i);
        }
        x.mark(10);
        x.row(0, 0, 6);
        Check.firing("early", x, 0, 0, 0, 10, 0, 2, 3, 1, 2, 33, 1);
        Check.firing("early", x, 1, 0, 0, 10, 0, 4, 10, 1, 4, (33 * 31 + 3) * 31 + 4, 2);
        Check.firing("at its end", x, 2, 0, 0, 10, 1, 5, 15, 1, 5, ((33 * 31 + 3) * 31 + 4) * 31 + 5, 3);
        Check.firing("lately", x, 3, 0, 0, 10, 2, 6, 21, 1, 6);
    }

    /** "or, if it is CLEARED by that (CLEARS is on), of those put into it since it last FIRED". */
    private static void toldOfThoseSince() {
        SpanRules x = staying(BESIDE);
        x.clears(true);
        x.trigger(2, true);
        for (int i = 1; i <= 5; i++) {
            x.row(0, 10 - i, i);
        }
        x.mark(10);
        x.row(0, 0, 6);
        x.row(0, 9, -7);
        Check.firing("early", x, 0, 0, 0, 10, 0, 2, 3, 1, 2, 2 * 31 + 1, 1);
        Check.firing("early", x, 1, 0, 0, 10, 0, 2, 7, 3, 4, 4 * 31 + 3, 2);
        Check.firing("at its end", x, 2, 0, 0, 10, 1, 1, 5, 5, 5, 5, 3);
        Check.firing("lately", x, 3, 0, 0, 10, 2, 1, 6, 6, 6, 6, 4);
        Check.firing("lately", x, 4, 0, 0, 10, 2, 1, -7, -7, -7, -7, 5);
        SpanRules s = new SpanRules(SLIDING, 10, 5);
        s.clears(true);
        s.trigger(2, true);
        s.row(0, 2, 1);
        s.row(0, 7, 2);
        Check.due("0 to 10 alone has two", s.count(6), 1);
        s.row(0, 8, 4);
        Check.firing("each span has its own", s, 1, 0, 5, 15, 0, 2, 6, 2, 4, 2 * 31 + 4, 1);
        s.row(0, 9, 8);
        Check.firing("each span has its own", s, 2, 0, 0, 10, 0, 2, 12, 4, 8, 4 * 31 + 8, 2);
    }

    /** "least, greatest (0 without rows)": one that told all it has fires at its end without rows. */
    private static void toldOfNone() {
        SpanRules x = staying(BESIDE);
        x.clears(true);
        x.trigger(1, true);
        x.row(0, 0, 5);
        Check.due("fires none the less", x.mark(10), 1);
        Check.firing("without rows", x, 1, 0, 0, 10, 1, 0, 0, 0, 0, 0, 2);
    }

    private static void clearsByTurns() {
        SpanRules x = staying(BESIDE);
        x.trigger(1, true);
        x.row(0, 0, 1);
        x.clears(true);
        x.row(0, 0, 2);
        Check.firing("on: since the last firing, which told all", x, 1, 0, 0, 10, 0, 1, 2, 2, 2, 2, 2);
        x.clears(false);
        x.row(0, 0, 4);
        Check.firing("off: of all rows", x, 2, 0, 0, 10, 0, 3, 7, 1, 4, 33 * 31 + 4, 3);
        x.clears(true);
        x.mark(10);
        Check.firing("on", x, 3, 0, 0, 10, 1, 0);
        Check.counts("rows and span are kept", x, 3, 1);
        Check.span("with all rows", x, 0, 0, 0, 10, 3, 7, 1, 4, 33 * 31 + 4, 4, 0);
    }

    /** "(a span made of several: that any of them had not told)". */
    private static void clearedOneMadeOfSeveral() {
        SpanRules x = staying(GAPS);
        x.clears(true);
        x.trigger(2, true);
        x.row(0, 0, 1);
        x.row(0, 0, 2);
        x.row(0, 18, 4);
        x.trigger(0, true);
        x.row(0, 1, 8);
        x.row(0, 9, 16);
        Check.span("all of it", x, 0, 0, 0, 28, 5, 31, 1, 16, (((1 * 31 + 2) * 31 + 8) * 31 + 16) * 31 + 4, 1, 3);
        x.mark(28);
        Check.firing("not told", x, 1, 0, 0, 28, 1, 3, 28, 4, 16, (8 * 31 + 16) * 31 + 4, 2);
        x.row(0, 3, 32);
        Check.firing("then all is told", x, 2, 0, 0, 28, 2, 1, 32, 32, 32, 32, 3);
    }

    private static void clearedAmongMany() {
        SpanRules x = new SpanRules(SLIDING, 16, 1);
        x.clears(true);
        x.trigger(2, true);
        for (int i = 0; i < 6; i++) {
            x.row(0, 100, 1 << i);
        }
        Check.due("three of each span", x.count(2), 48);
        for (int k = 0; k < 48; k++) {
            long first = 1 << k / 16 * 2;
            Check.firing("firing " + k, x, k, 0, 85 + k % 16, 101 + k % 16, 0, 2, 3 * first, first, 2 * first);
        }
        SpanRules y = new SpanRules(BESIDE, 1, 0);
        y.clears(true);
        y.trigger(1, true);
        for (int i = 0; i < 140; i++) {
            y.row(0, i, i);
        }
        for (int i = 0; i < 140; i++) {
            y.row(0, i, 1000 + i);
        }
        for (int i = 0; i < 140; i++) {
            Check.firing("the second of " + i, y, 140 + i, 0, i, i + 1, 0, 1, 1000 + i, 1000 + i, 1000 + i, 1000 + i, 2);
            Check.span("with both rows", y, 0, i, i, i + 1, 2, 1000 + 2 * i, i, 1000 + i, 32L * i + 1000, 2, 0);
        }
    }

    /** "(from 1; of one made of several: one more than the most of them had)". */
    private static void oneMoreThanTheMost() {
        int[][] firesOfTwo = {{0, 0}, {0, 2}, {2, 0}, {1, 3}, {3, 1}, {2, 2}};
        for (int[] fires : firesOfTwo) {
            SpanRules x = staying(GAPS);
            x.trigger(1, true);
            for (int i = 0; i < fires[0]; i++) {
                x.row(0, 0, 1);
            }
            for (int i = 0; i < fires[1]; i++) {
                x.row(0, 18, 1);
            }
            x.trigger(0, true);
            x.row(0, 0, 1);
            x.row(0, 18, 1);
            x.row(0, 9, 1);
            int most = Math.max(fires[0], fires[1]);
            Check.due("how often", x.span(0, 0, 9), most);
            x.mark(28);
            Check.due("one more", x.fired(x.count(5) - 1, 9), most + 1);
            Check.due("how often", x.span(0, 0, 9), most + 1);
        }
    }

    /** "(or since it is there)": what a span that went had is not of one that comes. */
    private static void newOnesBeginAnew() {
        SpanRules x = new SpanRules(BESIDE, 10, 0);
        x.lateness(5);
        for (int key = 0; key < 8; key++) {
            x.row(key, 0, 1);
        }
        x.mark(10);
        x.trigger(0, false);
        for (int key = 0; key < 8; key++) {
            x.row(key, 0, 2);
            Check.span("one since", x, key, 0, 0, 10, 2, 3, 1, 2, 33, 1, 1);
        }
        x.mark(15);
        Check.counts("all went", x, 0, 0, 8);
        x.clears(true);
        x.trigger(2, true);
        for (int key = 0; key < 8; key++) {
            x.row(key, 20, 4);
            Check.span("one since it is there", x, key, 0, 20, 30, 1, 4, 4, 4, 4, 0, 1);
        }
        Check.due("none early", x.count(6), 0);
        Check.due("at their end", x.mark(30), 8);
        for (int key = 0; key < 8; key++) {
            Check.firing("its own row", x, 8 + key, key, 20, 30, 1, 1, 4, 4, 4, 4, 1);
        }
    }

    private static void newOnesBehindGapsBeginAnew() {
        SpanRules x = staying(GAPS);
        x.clears(true);
        for (int i = 0; i < 8; i++) {
            x.row(0, 15L * i, 1);
        }
        for (int i = 0; i < 7; i++) {
            x.row(0, 15L * i + 8, 1);
        }
        Check.span("all one", x, 0, 0, 0, 115, 15, 15);
        x.trigger(2, true);
        for (int i = 0; i < 8; i++) {
            x.row(1, 15L * i, 2);
            Check.span("one since it is there", x, 1, i, 15L * i, 15L * i + 10, 1, 2, 2, 2, 2, 0, 1);
        }
        Check.due("none early", x.count(6), 0);
        x.mark(10);
        Check.firing("its own row", x, 0, 1, 0, 10, 1, 1, 2, 2, 2, 2, 1);
    }

    /** "with all ROWS" of those that became one, and of no other. */
    private static void othersHaveNothingOfIt() {
        SpanRules x = staying(GAPS);
        for (int i = 0; i < 25; i++) {
            for (int key = 0; key < 8; key++) {
                x.row(key, 15L * i, 100 * key + i);
            }
        }
        Check.due("200 spans", x.count(1), 200);
        for (int i = 0; i < 24; i++) {
            x.row(7, 15L * i + 8, 0);
        }
        Check.due("one", x.spans(7), 1);
        Check.span("one", x, 7, 0, 0, 370, 49, 25 * 700 + 24 * 25 / 2);
        for (int key = 0; key < 7; key++) {
            Check.due("others", x.spans(key), 25);
            for (int i = 0; i < 25; i++) {
                long value = 100 * key + i;
                Check.span("others", x, key, i, 15L * i, 15L * i + 10, 1, value, value, value, value, 0, 1);
            }
        }
    }
}
