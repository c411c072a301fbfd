import java.util.List;

/** Long runs of calls, the same on every machine, on the class and on the model. */
public final class ModelTest {
    private static final int RUNS = 1200;
    private static final int CALLS = 512;

    private long seed;
    private SpanRules x;
    private Model m;
    private String run;
    private long near;
    private int spread;
    private int chanceOfMark;
    private int keys;

    public static void main(String[] args) {
        for (int i = 0; i < RUNS; i++) {
            new ModelTest().oneRun(i);
        }
        Check.end();
    }

    private long next() {
        seed = seed * 6364136223846793005L + 1442695040888963407L;
        return seed >>> 20;
    }

    private int below(int n) {
        return (int) (next() % n);
    }

    private void oneRun(int number) {
        seed = number * 7919L + 12345;
        next();
        int kind = number % 6;
        int size = below(8) == 0 ? 1 + below(70000) : 1 + below(20);
        int step = below(8) == 0 ? 1 + below(70000) : 1 + below(8);
        run = "run " + number + " of kind " + kind + ", " + size + ", " + step;
        x = new SpanRules(kind, size, step);
        m = new Model(kind, size, step);
        near = farTime(kind);
        spread = 1 + below(kind == 4 ? 2000 : 8 * Math.min(size, 30));
        chanceOfMark = 2 + below(60);
        keys = 1 + below(8);
        settings();
        for (int i = 0; i < CALLS; i++) {
            oneCall(i);
            compareCounts(i);
            if (i % 16 == 0 || i == CALLS - 1) {
                compareAll(i);
            }
        }
    }

    private long farTime(int kind) {
        long most = kind == 4 ? 100000000L : 1000000000000L;
        switch (below(6)) {
            case 0:
                return most - below(1000);
            case 1:
                return -most + below(1000);
            case 2:
                return next() % most;
            default:
                return below(100) - 50;
        }
    }

    private void settings() {
        long offset = below(3) == 0 ? below(2000000001) - 1000000000L : below(40) - 20;
        Check.due(run + ": offset " + offset, x.offset(offset), m.setOffset(offset));
        if (below(3) > 0) {
            long lateness = below(60);
            Check.due(run + ": lateness " + lateness, x.lateness(lateness), m.setLateness(lateness));
        }
    }

    private void oneCall(int i) {
        String at = run + ", call " + i;
        int which = below(100);
        if (which < 3) {
            int every = below(7) - 1;
            boolean late = below(2) == 0;
            Check.due(at + ": trigger", x.trigger(every, late), m.setTrigger(every, late));
        } else if (which < 5) {
            boolean on = below(2) == 0;
            Check.due(at + ": clears", x.clears(on), m.setClears(on));
        } else if (which < 8) {
            int r = below(5) - 1;
            Check.due(at + ": rule", x.rule(r), m.setRule(r));
        } else if (which < 10) {
            int r = below(5) - 1;
            long v = below(20) - 10;
            Check.due(at + ": forbid", x.forbid(r, v), m.forbid(r, v));
        } else if (which == 10) {
            long v = below(30) - 15;
            Check.due(at + ": offset", x.offset(v), m.setOffset(v));
            Check.due(at + ": lateness", x.lateness(v), m.setLateness(v));
        } else if (below(chanceOfMark) == 0) {
            long time = near + below(spread) - spread / 2;
            Check.due(at + ": mark " + time, x.mark(time), m.comeTo(time));
        } else {
            row(at);
        }
    }

    private void row(String at) {
        near += below(3) == 0 ? below(1 + spread / 8) : 0;
        int key = below(60) == 0 ? below(20) - 6 : below(keys);
        long time = near + below(spread) - spread / 2;
        long value = below(10) == 0 ? next() * 0x9E3779B97F4A7C15L : below(400) - 200;
        long got = 0;
        long want = 0;
        try {
            got = x.row(key, time, value);
        } catch (ArithmeticException e) {
            got = -1000;
        }
        try {
            want = m.row(key, time, value);
        } catch (ArithmeticException e) {
            want = -1000;
        }
        Check.due(at + ": row " + key + ", " + time + ", " + value, got, want);
    }

    private void compareCounts(int i) {
        long[] want = {m.rows.size(), m.spans.size(), m.total, m.late, m.came, m.firings.size(), m.early, m.latelyFired};
        Check.counts(run + ", call " + i, x, want);
        int last = m.firings.size() - 1;
        if (last >= 0) {
            Check.firing(run + ", call " + i, x, last, m.firings.get(last));
        }
    }

    private void compareAll(int i) {
        String at = run + ", call " + i;
        for (int key = 0; key < 8; key++) {
            List<Model.Span> spans = m.ofKey(key);
            int want = m.kind == 3 ? m.numbered.getOrDefault(key, 0) : spans.size();
            Check.due(at + ": spans " + key, x.spans(key), want);
            for (int k = 0; k < spans.size(); k++) {
                Model.Span s = spans.get(k);
                long[] c = m.contents(s.all);
                Check.span(at, x, key, k, s.begin, s.end, c[0], c[1], c[2], c[3], c[4], s.fires, s.untold.size());
            }
            Check.due(at + ": no more spans", x.span(key, spans.size(), 1), Check.UNKNOWN);
        }
        for (int k = 0; k < m.firings.size(); k++) {
            Check.firing(at, x, k, m.firings.get(k));
        }
    }
}
