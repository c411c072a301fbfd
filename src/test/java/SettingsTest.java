import java.time.LocalDate;

/** Promises 1 to 7 and 14: a new object, offset, lateness, trigger, clears, rule, forbid, month. */
public final class SettingsTest {
    private static final long BILLION = 1000000000L;

    public static void main(String[] args) {
        newObject();
        nearestArguments();
        offset();
        lateness();
        trigger();
        clears();
        rule();
        forbid();
        month();
        Check.end();
    }

    private static void newObject() {
        Check.due("NONE", SpanRules.NONE, -1);
        for (int kind = 0; kind <= 5; kind++) {
            SpanRules x = new SpanRules(kind, 10, 10);
            Check.counts("new " + kind, x, 0, 0, 0, 0, 0, 0, 0, 0);
            for (int key = 0; key < 8; key++) {
                Check.due("new spans", x.spans(key), 0);
            }
            Check.due("new clears", x.clears(false), kind == 3 ? -3 : 0);
            Check.due("no firing", x.fired(0, 0), Check.UNKNOWN);
            Check.due("the first mark", x.mark(-10000000000000L), 0);
        }
        SpanRules x = new SpanRules(0, 10, 0);
        x.lateness(100);
        x.row(0, 5, 1);
        Check.due("every is 0 at first", x.count(2), 0);
        x.mark(50);
        x.row(0, 6, 1);
        Check.due("lately is on at first", x.count(7), 1);
        Check.due("clears is off at first", x.fired(1, 4), 2);
    }

    private static void nearestArguments() {
        SpanRules x = new SpanRules(-7, -7, -7);
        Check.due("kind below: beside", x.row(0, 4, 1), 1);
        Check.span("size 1", x, 0, 0, 4, 5);
        x = new SpanRules(Integer.MAX_VALUE, Integer.MAX_VALUE, Integer.MAX_VALUE);
        Check.due("kind above: own", x.rule(0), 0);
        x.row(0, 65536, 1);
        x.row(0, 65535, 1);
        Check.span("own size", x, 0, 0, 0, 65536);
        Check.span("own step", x, 0, 1, 65536, 131072);
        x = new SpanRules(4, 13, 1);
        x.row(0, 0, 1);
        Check.span("12 months", x, 0, 0, 0, 365);
        x = new SpanRules(1, 17, 1);
        Check.due("step from size / 16 on, rounded up", x.row(0, 0, 1), 9);
        Check.span("step 2", x, 0, 0, -16, 1);
        x = new SpanRules(1, 16, 0);
        Check.due("step 1 of size 16", x.row(0, 0, 1), 16);
        x = new SpanRules(1, 65536, 0);
        Check.due("step 4096 of size 65536", x.row(0, 0, 1), 16);
        x = new SpanRules(3, 0, 0);
        x.row(0, 0, 1);
        Check.due("counted of 1", x.mark(1), 1);
        x = new SpanRules(0, 5, 3);
        x.row(0, 13, 1);
        Check.span("step counts for nothing", x, 0, 0, 10, 15);
    }

    private static void offset() {
        SpanRules x = new SpanRules(0, 10, 0);
        Check.due("offset above", x.offset(BILLION + 1), -2);
        Check.due("offset below", x.offset(-BILLION - 1), -2);
        Check.due("offset far", x.offset(Long.MIN_VALUE), -2);
        Check.due("most", x.offset(BILLION), 1);
        Check.due("least", x.offset(-BILLION), 1);
        Check.due("refused row", x.row(9, 0, 0), -1);
        Check.due("offset", x.offset(3), 1);
        x.row(0, 2, 1);
        Check.span("offset 3", x, 0, 0, -7, 3);
        Check.due("behind a row", x.offset(3), -3);
        Check.due("-2 before -3", x.offset(BILLION + 1), -2);
        x = new SpanRules(3, 10, 1);
        Check.due("counted takes it", x.offset(3), 1);
        x = new SpanRules(0, 10, 0);
        x.mark(100);
        Check.due("late row", x.row(0, 0, 1), 0);
        Check.due("behind a late row", x.offset(3), -3);
        Check.due("lateness behind a late row", x.lateness(3), -3);
    }

    private static void lateness() {
        SpanRules x = new SpanRules(0, 10, 0);
        Check.due("lateness below", x.lateness(-1), -2);
        Check.due("lateness above", x.lateness(BILLION + 1), -2);
        Check.due("most", x.lateness(BILLION), 1);
        Check.due("least", x.lateness(0), 1);
        Check.due("lateness", x.lateness(5), 1);
        x.mark(14);
        Check.due("end + lateness above the mark", x.row(0, 3, 1), 1);
        x.mark(15);
        Check.due("end + lateness at the mark", x.row(0, 3, 1), 0);
        Check.due("behind a row", x.lateness(5), -3);
        Check.due("-2 before -3", x.lateness(-1), -2);
        x = new SpanRules(3, 10, 1);
        Check.due("counted", x.lateness(5), -3);
        Check.due("counted, outside", x.lateness(-5), -2);
    }

    private static void trigger() {
        SpanRules x = new SpanRules(0, 10, 0);
        Check.due("every below", x.trigger(-1, true), -2);
        Check.due("every above", x.trigger(1001, true), -2);
        Check.due("most", x.trigger(1000, true), 1);
        Check.due("every 2", x.trigger(2, true), 1);
        x.row(0, 0, 1);
        Check.due("one row", x.count(6), 0);
        x.row(0, 1, 1);
        Check.due("two rows", x.count(6), 1);
        x.row(0, 1, 1);
        Check.due("refused", x.trigger(-1, false), -2);
        x.row(0, 1, 1);
        Check.due("refused changes nothing", x.count(6), 2);
        Check.due("off", x.trigger(0, true), 1);
        x.row(0, 1, 1);
        x.row(0, 1, 1);
        x.row(0, 1, 1);
        Check.due("every 0", x.count(6), 2);
        x.trigger(2, true);
        Check.due("a trigger fires nothing", x.count(6), 2);
        x.row(0, 1, 1);
        Check.due("every or more", x.count(6), 3);
        x = new SpanRules(3, 10, 1);
        Check.due("counted", x.trigger(1, true), -3);
        Check.due("counted, outside", x.trigger(1001, true), -2);
    }

    private static void clears() {
        SpanRules x = new SpanRules(0, 10, 0);
        Check.due("on", x.clears(true), 1);
        Check.due("on again", x.clears(true), 0);
        Check.due("off", x.clears(false), 1);
        Check.due("off again", x.clears(false), 0);
        x = new SpanRules(3, 10, 1);
        Check.due("counted", x.clears(true), -3);
        Check.due("counted", x.clears(false), -3);
    }

    private static void rule() {
        SpanRules x = new SpanRules(5, 10, 4);
        Check.due("rule 1", x.rule(1), 0);
        Check.due("rule above", x.rule(3), -2);
        Check.due("rule below", x.rule(-1), -2);
        Check.due("rule 2", x.rule(2), 1);
        Check.due("rule 2 again", x.rule(2), 2);
        Check.due("rule 0", x.rule(0), 2);
        for (int kind = 0; kind < 5; kind++) {
            SpanRules y = new SpanRules(kind, 10, 4);
            Check.due("not own", y.rule(1), -3);
            Check.due("not own, outside", y.rule(3), -2);
        }
    }

    private static void forbid() {
        SpanRules x = new SpanRules(5, 10, 4);
        Check.due("rule below", x.forbid(-1, 0), -2);
        Check.due("rule above", x.forbid(3, 0), -2);
        for (int i = 0; i < 8; i++) {
            Check.due("forbid", x.forbid(1, i), i + 1);
            Check.due("once more", x.forbid(1, i), i + 1);
        }
        Check.due("a ninth", x.forbid(1, 8), -4);
        Check.due("known, of eight", x.forbid(1, 7), 8);
        Check.due("of another rule", x.forbid(2, Long.MIN_VALUE), 1);
        Check.due("not by rule 0", x.row(0, 0, 7), 1);
        x.rule(1);
        Check.rowThrows("rule 1", x, 0, 0, 7);
        Check.due("the refused ninth", x.row(0, 0, 8), 1);
        x.rule(2);
        Check.due("not by rule 2", x.row(0, 0, 7), 1);
        Check.rowThrows("rule 2", x, 0, 0, Long.MIN_VALUE);
        SpanRules y = new SpanRules(0, 10, 4);
        Check.due("not own", y.forbid(0, 0), -3);
        Check.due("not own, outside", y.forbid(3, 0), -2);
    }

    private static void month() {
        SpanRules x = new SpanRules(0, 1, 1);
        Check.due("January 1970", x.month(0), 0);
        Check.due("March 1970", x.month(2), 59);
        Check.due("December 1969", x.month(-1), -31);
        Check.due("above", x.month(3000001), -2000000000);
        Check.due("below", x.month(-3000001), -2000000000);
        Check.due("far", x.month(Integer.MIN_VALUE), -2000000000);
        for (int m = -6000; m <= 6000; m++) {
            Check.due("month " + m, x.month(m), LocalDate.of(1970, 1, 1).plusMonths(m).toEpochDay());
        }
        for (int m = -3000000; m <= 3000000; m += 997) {
            Check.due("month " + m, x.month(m), LocalDate.of(1970, 1, 1).plusMonths(m).toEpochDay());
        }
    }
}
