import java.time.LocalDate;

/** 'Terms' of the document, sentence by sentence: the edges that each of them names. */
public final class TermsTest {
    private static final long TRILLION = 1000000000000L;
    private static final long BILLION = 1000000000L;
    private static final long FIRST_MARK = -10000000000000L;
    private static final int BESIDE = 0;
    private static final int SLIDING = 1;
    private static final int GAPS = 2;
    private static final int COUNTED = 3;
    private static final int MONTHS = 4;
    private static final int OWN = 5;

    public static void main(String[] args) {
        kinds();
        sizes();
        sizesOfMonths();
        steps();
        stepsOfSliding();
        stepsThatCountForNothing();
        offsetAndLatenessAtFirst();
        wholeNumberNotAbove();
        theMarkAtFirst();
        theMarkNeverGoesBack();
        sumWraps();
        mixWraps();
        leastAndGreatest();
        byTimeThenAsTheyCame();
        besideEdges();
        slidingEdges();
        slidingInNone();
        leapYears();
        monthsAboutDayZero();
        monthsAtTheEnds();
        monthsWithOffset();
        turns();
        byValue();
        doubling();
        forbiddenByRule();
        gapEdges();
        gapThatFired();
        countedWaits();
        countedNumbers();
        Check.end();
    }

    /** What the row makes of the KIND, SIZE and STEP. */
    private static void made(String what, SpanRules x, long time, long value, long begin, long end) {
        Check.due(what + ", row", x.row(0, time, value), 1);
        Check.span(what, x, 0, 0, begin, end, 1);
    }

    /** "KINDS (the constructor's ends: the nearest)". */
    private static void kinds() {
        for (int kind : new int[] {Integer.MIN_VALUE, -1, 0}) {
            made("beside " + kind, new SpanRules(kind, 10, 3), 13, 1, 10, 20);
            Check.due("not own", new SpanRules(kind, 10, 3).rule(0), -3);
        }
        Check.due("sliding", new SpanRules(1, 10, 5).row(0, 13, 1), 2);
        made("gaps", new SpanRules(2, 10, 3), 13, 1, 13, 23);
        Check.due("counted", new SpanRules(3, 10, 3).clears(true), -3);
        made("months", new SpanRules(4, 1, 3), 13, 1, 0, 31);
        for (int kind : new int[] {5, 6, Integer.MAX_VALUE}) {
            Check.due("own " + kind, new SpanRules(kind, 10, 3).rule(1), 0);
            made("own " + kind, new SpanRules(kind, 10, 3), 12, 1, 10, 13);
        }
    }

    /** "SIZE is 1 .. 65536". */
    private static void sizes() {
        for (int size : new int[] {Integer.MIN_VALUE, -1, 0, 1}) {
            made("beside " + size, new SpanRules(BESIDE, size, 1), 7, 1, 7, 8);
            made("sliding " + size, new SpanRules(SLIDING, size, 1), 7, 1, 7, 8);
            made("gaps " + size, new SpanRules(GAPS, size, 1), 7, 1, 7, 8);
            made("own " + size, new SpanRules(OWN, size, 9), 10, 1, 10, 11);
            SpanRules x = new SpanRules(COUNTED, size, 1);
            x.row(0, 5, 1);
            Check.due("counted " + size, x.mark(6), 1);
            Check.firing("counted " + size, x, 0, 0, 0, 1);
        }
        for (int size : new int[] {65536, 65537, Integer.MAX_VALUE}) {
            made("beside " + size, new SpanRules(BESIDE, size, 1), 65535, 1, 0, 65536);
            made("sliding " + size, new SpanRules(SLIDING, size, 65536), 65535, 1, 0, 65536);
            made("gaps " + size, new SpanRules(GAPS, size, 1), 5, 1, 5, 65541);
            made("own " + size, new SpanRules(OWN, size, 1), 65535, 1, 0, 65536);
            made("own " + size, new SpanRules(OWN, size, 1), 65536, 1, 65536, 65537);
        }
        made("one below the most", new SpanRules(BESIDE, 65535, 1), 65535, 1, 65535, 131070);
    }

    /** "(4: 1 .. 12)". */
    private static void sizesOfMonths() {
        for (int size : new int[] {Integer.MIN_VALUE, 0, 1}) {
            made("months " + size, new SpanRules(MONTHS, size, 1), 31, 1, 31, 59);
        }
        made("11 months", new SpanRules(MONTHS, 11, 1), 0, 1, 0, 334);
        for (int size : new int[] {12, 13, 65536, Integer.MAX_VALUE}) {
            made("months " + size, new SpanRules(MONTHS, size, 1), 364, 1, 0, 365);
        }
    }

    /** "STEP 1 .. 65536". */
    private static void steps() {
        for (int step : new int[] {Integer.MIN_VALUE, -1, 0, 1}) {
            SpanRules x = new SpanRules(COUNTED, 2, step);
            for (int i = 0; i < 4; i++) {
                x.row(0, i, i);
            }
            Check.due("counted " + step, x.mark(4), 3);
            made("own " + step, new SpanRules(OWN, 9, step), 9, 1, 9, 10);
            Check.due("sliding " + step, new SpanRules(SLIDING, 2, step).row(0, 0, 1), 2);
        }
        for (int step : new int[] {65536, 65537, Integer.MAX_VALUE}) {
            made("own " + step, new SpanRules(OWN, 1, step), 5, 1, 1, 65537);
            SpanRules x = new SpanRules(SLIDING, 1, step);
            Check.due("in none", x.row(0, 65535, 1), 0);
            made("sliding " + step, x, 65536, 1, 65536, 65537);
            Check.due("in none", x.row(0, 65537, 1), 0);
        }
    }

    /** "(1: from SIZE / 16 on, rounded up". */
    private static void stepsOfSliding() {
        int[][] leastOfSize = {{1, 1}, {15, 1}, {16, 1}, {17, 2}, {31, 2}, {32, 2}, {33, 3}, {256, 16}, {257, 17},
            {65520, 4095}, {65521, 4096}, {65535, 4096}, {65536, 4096}};
        for (int[] pair : leastOfSize) {
            int size = pair[0];
            int least = pair[1];
            for (int step : new int[] {Integer.MIN_VALUE, 0, 1, least - 1, least}) {
                slidesBy("size " + size + ", step " + step, size, step, Math.max(least, step));
            }
            slidesBy("one more", size, least + 1, least + 1);
        }
    }

    private static void slidesBy(String what, int size, int given, int step) {
        SpanRules x = new SpanRules(SLIDING, size, given);
        // the spans from 0 on, from -step on and so forth have 0, as far as they are long enough
        int spans = (size + step - 1) / step;
        Check.due(what, x.row(0, 0, 1), spans);
        Check.due(what, x.spans(0), spans);
        for (int i = 0; i < spans; i++) {
            long begin = -(long) step * (spans - 1 - i);
            Check.span(what, x, 0, i, begin, begin + size, 1);
        }
    }

    /** "0, 2, 4: it counts for nothing)". */
    private static void stepsThatCountForNothing() {
        for (int step : new int[] {Integer.MIN_VALUE, 0, 1, 7, 65537}) {
            made("beside", new SpanRules(BESIDE, 100, step), 199, 1, 100, 200);
            made("gaps", new SpanRules(GAPS, 100, step), 199, 1, 199, 299);
            made("months", new SpanRules(MONTHS, 12, step), 199, 1, 0, 365);
        }
    }

    /** "OFFSET .., LATENESS .. (both 0 at first)". */
    private static void offsetAndLatenessAtFirst() {
        made("offset", new SpanRules(BESIDE, 10, 0), 0, 1, 0, 10);
        SpanRules x = new SpanRules(BESIDE, 10, 0);
        x.mark(9);
        Check.due("its end is above the mark", x.row(0, 0, 1), 1);
        x.mark(10);
        Check.due("no lateness", x.row(0, 0, 1), 0);
    }

    /** "a BY b: a / b, the whole number not above it." */
    private static void wholeNumberNotAbove() {
        long[][] beginOfTime = {{-21, -30}, {-20, -20}, {-11, -20}, {-10, -10}, {-9, -10}, {-1, -10}, {0, 0}, {9, 0}, {10, 10}};
        for (long[] pair : beginOfTime) {
            made("time " + pair[0], new SpanRules(BESIDE, 10, 0), pair[0], 1, pair[1], pair[1] + 10);
        }
    }

    /** "THE MARK is a time, at first -10^13". */
    private static void theMarkAtFirst() {
        for (int kind = BESIDE; kind <= OWN; kind++) {
            SpanRules x = new SpanRules(kind, 1, 1);
            Check.due("below it", x.mark(FIRST_MARK - 1), -2);
            Check.due("the same", x.mark(FIRST_MARK), 0);
            Check.due("the least time", x.row(0, kind == MONTHS ? -100000000L : -TRILLION, 1), 1);
            Check.due("one more", x.mark(FIRST_MARK + 1), 0);
            Check.due("back to it", x.mark(FIRST_MARK), -3);
        }
    }

    /** "it never goes back". */
    private static void theMarkNeverGoesBack() {
        SpanRules x = new SpanRules(BESIDE, 10, 0);
        x.mark(20);
        Check.due("back", x.mark(19), -3);
        Check.due("it is still 20", x.row(0, 19, 1), 0);
        Check.due("it is not above 20", x.row(0, 20, 1), 1);
        SpanRules c = new SpanRules(COUNTED, 1, 1);
        c.mark(20);
        Check.due("back", c.mark(FIRST_MARK), -3);
        Check.due("it is still 20", c.row(0, 19, 1), 0);
    }

    /** "the sum of VALUES (wrapped)". */
    private static void sumWraps() {
        SpanRules x = new SpanRules(BESIDE, 10, 0);
        x.row(0, 0, Long.MAX_VALUE);
        x.row(0, 1, 1);
        Check.due("above the greatest", x.span(0, 0, 5), Long.MIN_VALUE);
        x.row(0, 2, -1);
        Check.due("and back", x.span(0, 0, 5), Long.MAX_VALUE);
        x.row(0, 3, Long.MIN_VALUE);
        Check.due("both ends", x.span(0, 0, 5), -1);
        x.row(0, 4, Long.MIN_VALUE);
        Check.due("below the least", x.span(0, 0, 5), Long.MAX_VALUE);
        x.mark(10);
        Check.due("told", x.fired(0, 5), Long.MAX_VALUE);
        SpanRules c = new SpanRules(COUNTED, 2, 1);
        c.row(0, 0, Long.MIN_VALUE);
        c.row(0, 0, Long.MIN_VALUE);
        c.mark(1);
        Check.due("counted", c.fired(0, 5), 0);
    }

    /** "the MIX: from 0 on, for each row 31 times it and the VALUE (wrapped)". */
    private static void mixWraps() {
        SpanRules x = new SpanRules(BESIDE, 10, 0);
        x.row(0, 0, Long.MIN_VALUE);
        Check.due("one row", x.span(0, 0, 8), Long.MIN_VALUE);
        x.row(0, 1, 0);
        // an odd number times 2^63 is 2^63 again
        Check.due("31 times it", x.span(0, 0, 8), Long.MIN_VALUE);
        x.row(0, 2, Long.MAX_VALUE);
        Check.due("and the value", x.span(0, 0, 8), -1);
        x.row(0, 3, 2);
        Check.due("31 times -1 and 2", x.span(0, 0, 8), -29);
        SpanRules y = new SpanRules(BESIDE, 10, 0);
        y.row(0, 0, Long.MAX_VALUE);
        y.row(0, 0, 0);
        // 31 * (2^63 - 1) is 31 * 2^63 - 31, which is 2^63 - 31 beyond whole 2^64
        Check.due("31 times the greatest", y.span(0, 0, 8), Long.MAX_VALUE - 30);
    }

    /** "the least, the greatest". */
    private static void leastAndGreatest() {
        SpanRules x = new SpanRules(BESIDE, 10, 0);
        x.row(0, 5, 7);
        Check.span("one above 0", x, 0, 0, 0, 10, 1, 7, 7, 7);
        x.row(0, 4, 9);
        Check.span("none below", x, 0, 0, 0, 10, 2, 16, 7, 9);
        SpanRules y = new SpanRules(BESIDE, 10, 0);
        y.row(0, 5, -7);
        Check.span("one below 0", y, 0, 0, 0, 10, 1, -7, -7, -7);
        y.row(0, 4, -9);
        Check.span("none above", y, 0, 0, 0, 10, 2, -16, -9, -7);
        y.row(0, 3, Long.MAX_VALUE);
        y.row(0, 2, Long.MIN_VALUE);
        Check.due("least of all", y.span(0, 0, 6), Long.MIN_VALUE);
        Check.due("greatest of all", y.span(0, 0, 7), Long.MAX_VALUE);
    }

    /** "rows by TIME, of one TIME as they came (so everywhere)". */
    private static void byTimeThenAsTheyCame() {
        long mix = ((4 * 31 + 2) * 31 + 3) * 31 + 1;
        for (int kind : new int[] {BESIDE, GAPS, MONTHS, OWN}) {
            SpanRules x = new SpanRules(kind, 10, 10);
            comeInTurn(x);
            Check.due("span of kind " + kind, x.span(0, 0, 8), mix);
            x.mark(TRILLION);
            int ofKey0 = x.fired(0, 0) == 0 ? 0 : 1;
            Check.due("firing of kind " + kind, x.fired(ofKey0, 8), mix);
        }
        SpanRules c = new SpanRules(COUNTED, 4, 4);
        comeInTurn(c);
        c.mark(10);
        Check.due("counted", c.fired(0, 8), mix);
        SpanRules g = new SpanRules(GAPS, 10, 0);
        g.row(0, 20, 1);
        g.row(0, 5, 2);
        g.row(0, 5, 3);
        g.row(0, 13, 4);
        Check.due("of spans that became one", g.span(0, 0, 8), ((2 * 31 + 3) * 31 + 4) * 31 + 1);
    }

    private static void comeInTurn(SpanRules x) {
        x.row(0, 6, 1);
        x.row(0, 5, 2);
        x.row(1, 5, 9);
        x.row(0, 5, 3);
        x.row(0, 4, 4);
    }

    /** "BESIDE, the one from OFFSET + SIZE * ((t - OFFSET) BY SIZE) on, SIZE long." */
    private static void besideEdges() {
        for (long offset : new long[] {-BILLION, -3, 0, 3, BILLION}) {
            for (int size : new int[] {1, 10, 65536}) {
                for (long time : new long[] {-TRILLION, offset - size - 1, offset - size, offset - 1, offset,
                    offset + size - 1, offset + size, TRILLION}) {
                    SpanRules x = new SpanRules(BESIDE, size, 0);
                    x.offset(offset);
                    long begin = time - Math.floorMod(time - offset, size);
                    made("offset " + offset + ", size " + size, x, time, 1, begin, begin + size);
                }
            }
        }
    }

    /** "SLIDING: all that are SIZE long, begin at OFFSET + STEP * i for a whole i, and have t." */
    private static void slidingEdges() {
        SpanRules x = new SpanRules(SLIDING, 10, 5);
        x.offset(2);
        Check.due("a begin", x.row(0, 12, 1), 2);
        Check.span("an end is none of it", x, 0, 0, 7, 17);
        Check.span("a begin is of it", x, 0, 1, 12, 22);
        Check.due("before it", x.row(1, 11, 1), 2);
        Check.span("has 11", x, 1, 0, 2, 12);
        Check.span("has 11", x, 1, 1, 7, 17);
        Check.due("before the offset", x.row(2, -4, 1), 2);
        Check.span("has -4", x, 2, 0, -13, -3);
        Check.span("has -4", x, 2, 1, -8, 2);
        SpanRules one = new SpanRules(SLIDING, 10, 10);
        Check.due("step as size", one.row(0, 10, 1), 1);
        Check.span("step as size", one, 0, 0, 10, 20);
        for (long time : new long[] {-TRILLION, TRILLION}) {
            SpanRules far = new SpanRules(SLIDING, 65536, 4096);
            far.offset(-BILLION);
            Check.due("far", far.row(0, time, 1), 16);
            long last = time - Math.floorMod(time + BILLION, 4096);
            Check.span("far, last", far, 0, 15, last, last + 65536, 1);
            Check.span("far, first", far, 0, 0, last - 15 * 4096, last + 4096, 1);
        }
    }

    /** "LATE if there is none (also if it would be in none at all)." */
    private static void slidingInNone() {
        SpanRules x = new SpanRules(SLIDING, 2, 5);
        x.offset(1);
        int[] spansOfTime = {0, 1, 1, 0, 0, 0, 1, 1, 0};
        int late = 0;
        for (int time = 0; time < spansOfTime.length; time++) {
            Check.due("time " + time, x.row(0, time, 1), spansOfTime[time]);
            late += 1 - spansOfTime[time];
            Check.due("late", x.count(3), late);
            Check.due("came", x.count(4), time + 1);
        }
        SpanRules y = new SpanRules(SLIDING, 1, 2);
        Check.due("in none", y.row(0, 1, 1), 0);
        Check.due("it came", y.offset(1), -3);
        Check.due("it came", y.lateness(1), -3);
    }

    /** "a leap day (February 29) in years that 4 divides, but those that 100 divides and 400 does not". */
    private static void leapYears() {
        int[] leap = {2024, 2000, 1996, 1600, 4, 0, -4, -400, -2000, 240000, -240000};
        int[] plain = {2023, 2022, 2025, 1900, 2100, 1970, 1, -1, -100, -200, -300, 100, 239900, -239900};
        for (int year : leap) {
            Check.due("leap " + year, february(year), 29);
        }
        for (int year : plain) {
            Check.due("plain " + year, february(year), 28);
        }
    }

    private static long february(int year) {
        SpanRules x = new SpanRules(MONTHS, 1, 0);
        long first = LocalDate.of(year, 2, 1).toEpochDay();
        Check.due("its first day", x.row(0, first, 1), 1);
        x.row(0, first + 27, 1);
        Check.due("in one month", x.spans(0), 1);
        Check.due("from its first day on", x.span(0, 0, 1), first);
        x.row(0, x.span(0, 0, 2), 1);
        Check.due("March", x.span(0, 1, 1), LocalDate.of(year, 3, 1).toEpochDay());
        Check.due("month", x.month((year - 1970) * 12 + 1), first);
        return x.span(0, 0, 2) - first;
    }

    /** "times are days from 1970-01-01 (day 0) on .. months are counted from January 1970 (0)". */
    private static void monthsAboutDayZero() {
        made("day -1", new SpanRules(MONTHS, 1, 0), -1, 1, -31, 0);
        made("day 0", new SpanRules(MONTHS, 1, 0), 0, 1, 0, 31);
        made("day 30", new SpanRules(MONTHS, 1, 0), 30, 1, 0, 31);
        made("day 31", new SpanRules(MONTHS, 1, 0), 31, 1, 31, 59);
        made("the year before", new SpanRules(MONTHS, 12, 0), -1, 1, -365, 0);
        made("the year", new SpanRules(MONTHS, 12, 0), 0, 1, 0, 365);
    }

    /** "Times are .. (4: -10^8 .. 10^8)": the calendar holds "in all times". */
    private static void monthsAtTheEnds() {
        for (long day : new long[] {-100000000L, -99999999L, 99999999L, 100000000L}) {
            for (int size = 1; size <= 12; size++) {
                SpanRules x = new SpanRules(MONTHS, size, 0);
                LocalDate date = LocalDate.ofEpochDay(day);
                long month = (date.getYear() - 1970L) * 12 + date.getMonthValue() - 1;
                LocalDate first = LocalDate.of(1970, 1, 1).plusMonths(month - Math.floorMod(month, size));
                made("day " + day, x, day, 1, first.toEpochDay(), first.plusMonths(size).toEpochDay());
            }
        }
    }

    /** "from OFFSET + SIZE * ((m - OFFSET) BY SIZE) on (OFFSET in months)". */
    private static void monthsWithOffset() {
        LocalDate january = LocalDate.of(1970, 1, 1);
        for (long offset : new long[] {-BILLION, -13, -1, 0, 1, 5, 12, BILLION}) {
            for (int size = 1; size <= 12; size++) {
                for (int month = -25; month <= 25; month++) {
                    SpanRules x = new SpanRules(MONTHS, size, 0);
                    x.offset(offset);
                    LocalDate first = january.plusMonths(month - Math.floorMod(month - offset, size));
                    long lastDay = january.plusMonths(month + 1).toEpochDay() - 1;
                    made("offset " + offset + ", size " + size + ", month " + month, x, lastDay, 1,
                        first.toEpochDay(), first.plusMonths(size).toEpochDay());
                }
            }
        }
    }

    /** "0 by turns SIZE and STEP long, one of SIZE from OFFSET on". */
    private static void turns() {
        long[][] want = {{-8, -14, -7}, {-7, -7, -4}, {-5, -7, -4}, {-4, -4, 3}, {2, -4, 3}, {3, 3, 6}, {5, 3, 6},
            {6, 6, 13}, {12, 6, 13}, {13, 13, 16}, {15, 13, 16}, {16, 16, 23}};
        for (long[] w : want) {
            SpanRules x = new SpanRules(OWN, 7, 3);
            x.offset(6);
            made("time " + w[0], x, w[0], 1, w[1], w[2]);
        }
        for (long time : new long[] {-TRILLION, TRILLION}) {
            SpanRules x = new SpanRules(OWN, 65536, 65535);
            x.offset(BILLION);
            long round = time - Math.floorMod(time - BILLION, 131071);
            boolean inFirst = time < round + 65536;
            made("far", x, time, 1, inFirst ? round : round + 65536, inFirst ? round + 65536 : round + 131071);
        }
    }

    /** "1: a row with a VALUE below 0 as BESIDE with STEP in place of SIZE, else as BESIDE". */
    private static void byValue() {
        long[] below = {Long.MIN_VALUE, -2, -1};
        long[] others = {0, 1, Long.MAX_VALUE};
        for (long value : below) {
            SpanRules x = new SpanRules(OWN, 7, 3);
            x.rule(1);
            x.offset(1);
            made("value " + value, x, 6, value, 4, 7);
        }
        for (long value : others) {
            SpanRules x = new SpanRules(OWN, 7, 3);
            x.rule(1);
            x.offset(1);
            made("value " + value, x, 6, value, 1, 8);
        }
    }

    /** "2: with u = t - OFFSET: for u from 0 on the spans 0 to 1, 1 to 2, 2 to 4, .., for others mirrored". */
    private static void doubling() {
        for (long offset : new long[] {-BILLION, 0, BILLION}) {
            doubled(offset, 0, 0, 1);
            doubled(offset, -1, -1, 0);
            for (long low = 1; low <= 1L << 38; low *= 2) {
                doubled(offset, low, low, 2 * low);
                doubled(offset, 2 * low - 1, low, 2 * low);
                doubled(offset, -low - 1, -2 * low, -low);
                doubled(offset, -2 * low, -2 * low, -low);
            }
            long top = 1L << 39;
            doubled(offset, TRILLION - BILLION, top, 2 * top);
            doubled(offset, BILLION - TRILLION, -2 * top, -top);
        }
    }

    private static void doubled(long offset, long u, long from, long to) {
        SpanRules x = new SpanRules(OWN, 7, 3);
        x.rule(2);
        x.offset(offset);
        made("offset " + offset + ", u " + u, x, offset + u, 1, offset + from, offset + to);
    }

    /** "A VALUE that is FORBIDDEN (by RULE, 8 at most each) makes an OWN row throw." */
    private static void forbiddenByRule() {
        SpanRules x = new SpanRules(OWN, 7, 3);
        for (int rule = 0; rule < 3; rule++) {
            for (int i = 1; i <= 8; i++) {
                Check.due("rule " + rule, x.forbid(rule, 100 * rule + i), i);
            }
            Check.due("a ninth by rule " + rule, x.forbid(rule, 99), -4);
        }
        for (int rule = 0; rule < 3; rule++) {
            x.rule(rule);
            for (int other = 0; other < 3; other++) {
                for (int i = 1; i <= 8; i++) {
                    if (other == rule) {
                        Check.rowThrows("value " + (100 * other + i), x, 0, 0, 100 * other + i);
                    } else {
                        Check.due("by another rule", x.row(0, 0, 100 * other + i), 1);
                    }
                }
            }
            Check.due("the ninth is not", x.row(0, 0, 99), 1);
        }
        Check.due("those that threw came not", x.count(4), 3 * 17);
    }

    /** "Spans that share a time (an END is none of a span) become one". */
    private static void gapEdges() {
        long[][] spansOfTime = {{15, 2}, {14, 1}, {6, 1}, {5, 2}};
        for (long[] pair : spansOfTime) {
            SpanRules x = new SpanRules(GAPS, 5, 0);
            x.row(0, 10, 1);
            x.row(0, pair[0], 1);
            Check.due("10 and " + pair[0], x.spans(0), pair[1]);
        }
        SpanRules x = new SpanRules(GAPS, 5, 0);
        x.row(0, 0, 1);
        x.row(0, 9, 2);
        x.row(1, 4, 3);
        Check.due("of another key", x.spans(0), 2);
        x.row(0, 4, 4);
        Check.due("4 to 9 touches 9 only", x.spans(0), 2);
        Check.span("the least begin, the greatest end", x, 0, 0, 0, 9, 2, 5);
        x.row(0, 8, 5);
        Check.due("all", x.spans(0), 1);
        Check.span("with all rows", x, 0, 0, 0, 14, 4, 12);
        SpanRules one = new SpanRules(GAPS, 1, 0);
        one.row(0, 5, 1);
        one.row(0, 6, 1);
        Check.due("beside one another", one.spans(0), 2);
        one.row(0, 5, 1);
        Check.due("of one time", one.spans(0), 2);
        SpanRules far = new SpanRules(GAPS, 65536, 0);
        far.row(0, TRILLION, 1);
        far.row(0, -TRILLION, 1);
        Check.span("the least time", far, 0, 0, -TRILLION, 65536 - TRILLION);
        Check.span("the greatest time", far, 0, 1, TRILLION, TRILLION + 65536);
    }

    /** "become one .. with all ROWS: also one that fired." */
    private static void gapThatFired() {
        SpanRules x = new SpanRules(GAPS, 5, 0);
        x.lateness(1);
        x.row(0, 0, 1);
        x.mark(5);
        x.row(0, 4, 2);
        Check.span("with one that fired at its end", x, 0, 0, 0, 9, 2, 3, 1, 2, 33, 1, 1);
        x.trigger(1, true);
        x.row(0, 8, 4);
        Check.firing("early", x, 1, 0, 0, 13, 0, 3, 7, 1, 4, 33 * 31 + 4, 2);
        x.row(0, 12, 8);
        Check.firing("with one that fired early", x, 2, 0, 0, 17, 0, 4, 15);
        x.mark(17);
        x.row(0, 11, 16);
        Check.firing("lately", x, 4, 0, 0, 17, 2, 5, 31);
        x.trigger(0, true);
        x.row(0, 15, 32);
        Check.span("with one that fired lately", x, 0, 0, 0, 20, 6, 63);
    }

    /** "COUNTED: rows wait until THE MARK is above their TIME". */
    private static void countedWaits() {
        SpanRules x = new SpanRules(COUNTED, 1, 1);
        x.row(0, 5, 1);
        x.row(0, TRILLION, 2);
        Check.due("at its time", x.mark(5), 0);
        Check.due("waits", x.spans(0), 0);
        Check.due("above its time", x.mark(6), 1);
        Check.due("numbered", x.spans(0), 1);
        Check.due("at the greatest time", x.mark(TRILLION), 0);
        Check.due("above it", x.mark(TRILLION + 1), 1);
        Check.due("numbered", x.spans(0), 2);
    }

    /** "each KEY'S are numbered from 0 on by TIME .. Span i has rows STEP * i to STEP * i + SIZE - 1". */
    private static void countedNumbers() {
        SpanRules x = new SpanRules(COUNTED, 2, 3);
        for (int i = 0; i < 8; i++) {
            x.row(7, 100 - i, i);
            x.row(0, 100 + i, i);
        }
        Check.due("all but the last of key 0", x.mark(107), 5);
        Check.firing("span 0", x, 0, 0, 0, 2, 1, 2, 1, 0, 1, 1, 1);
        Check.firing("span 1", x, 1, 0, 3, 5, 1, 2, 7, 3, 4, 3 * 31 + 4, 1);
        Check.firing("key 7, span 0", x, 2, 7, 0, 2, 1, 2, 13, 6, 7, 7 * 31 + 6, 1);
        Check.firing("key 7, span 1", x, 3, 7, 3, 5, 1, 2, 7, 3, 4, 4 * 31 + 3, 1);
        Check.firing("key 7, span 2", x, 4, 7, 6, 8, 1, 2, 1, 0, 1, 31, 1);
        Check.due("the last one is missing", x.spans(0), 7);
        Check.due("now it is there", x.mark(108), 1);
        Check.firing("span 2", x, 5, 0, 6, 8, 1, 2, 13, 6, 7, 6 * 31 + 7, 1);
    }
}
