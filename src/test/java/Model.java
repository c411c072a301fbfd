import java.time.LocalDate;
import java.util.ArrayList;
import java.util.Comparator;
import java.util.List;
import java.util.TreeMap;

/** The document once more, slow and with lists, to be held against the class. */
final class Model {
    static final class Row {
        int key;
        long time;
        long value;
        long number = -1;
    }

    static final class Span {
        int key;
        long begin;
        long end;
        List<Row> all = new ArrayList<>();
        List<Row> untold = new ArrayList<>();
        int fires;
        boolean ended;

        Span(int key, long begin, long end) {
            this.key = key;
            this.begin = begin;
            this.end = end;
        }
    }

    final int kind;
    final long size;
    final long step;
    long offset;
    long lateness;
    long mark = -10000000000000L;
    int every;
    boolean lately = true;
    boolean clears;
    int rule;
    int came;
    int late;
    int total;
    int early;
    int latelyFired;
    List<List<Long>> forbidden = List.of(new ArrayList<>(), new ArrayList<>(), new ArrayList<>());
    /** As they came. */
    List<Row> rows = new ArrayList<>();
    List<Span> spans = new ArrayList<>();
    List<long[]> firings = new ArrayList<>();
    TreeMap<Integer, Integer> numbered = new TreeMap<>();
    TreeMap<Integer, Integer> firedOf = new TreeMap<>();

    Model(int kind, int size, int step) {
        this.kind = Math.min(5, Math.max(0, kind));
        int sizeMost = this.kind == 4 ? 12 : 65536;
        this.size = Math.min(sizeMost, Math.max(1, size));
        long stepLeast = this.kind == 1 ? (long) Math.ceil(this.size / 16.0) : 1;
        this.step = Math.min(65536, Math.max(stepLeast, step));
    }

    int setOffset(long v) {
        if (v < -1000000000L || v > 1000000000L) {
            return -2;
        }
        if (came > 0) {
            return -3;
        }
        offset = v;
        return 1;
    }

    int setLateness(long v) {
        if (v < 0 || v > 1000000000L) {
            return -2;
        }
        if (came > 0 || kind == 3) {
            return -3;
        }
        lateness = v;
        return 1;
    }

    int setTrigger(int e, boolean l) {
        if (e < 0 || e > 1000) {
            return -2;
        }
        if (kind == 3) {
            return -3;
        }
        every = e;
        lately = l;
        return 1;
    }

    int setClears(boolean on) {
        if (kind == 3) {
            return -3;
        }
        int answer = clears == on ? 0 : 1;
        clears = on;
        return answer;
    }

    int setRule(int r) {
        if (r < 0 || r > 2) {
            return -2;
        }
        if (kind != 5) {
            return -3;
        }
        int was = rule;
        rule = r;
        return was;
    }

    int forbid(int r, long v) {
        if (r < 0 || r > 2) {
            return -2;
        }
        if (kind != 5) {
            return -3;
        }
        List<Long> list = forbidden.get(r);
        if (!list.contains(v)) {
            if (list.size() == 8) {
                return -4;
            }
            list.add(v);
        }
        return list.size();
    }

    int row(int key, long time, long value) {
        if (key < 0 || key > 7) {
            return -1;
        }
        long most = kind == 4 ? 100000000L : 1000000000000L;
        if (time < -most || time > most) {
            return -2;
        }
        if (kind == 5 && forbidden.get(rule).contains(value)) {
            throw new ArithmeticException();
        }
        Row row = new Row();
        row.key = key;
        row.time = time;
        row.value = value;
        if (kind == 3) {
            return countedRow(row);
        }
        return kind == 2 ? gapRow(row) : timedRow(row);
    }

    private int countedRow(Row row) {
        if (row.time < mark) {
            return drop();
        }
        if (rows.size() == 300) {
            return -4;
        }
        came++;
        rows.add(row);
        return 1;
    }

    private int drop() {
        came++;
        late++;
        return 0;
    }

    private boolean gone(long end) {
        return !(end + lateness > mark);
    }

    private int gapRow(Row row) {
        Span one = new Span(row.key, row.time, row.time + size);
        List<Span> rest = new ArrayList<>(spans);
        boolean anyEnded = false;
        boolean again = true;
        while (again) {
            again = false;
            for (Span s : rest) {
                if (s.key == one.key && Math.max(s.begin, one.begin) < Math.min(s.end, one.end)) {
                    rest.remove(s);
                    one.begin = Math.min(s.begin, one.begin);
                    one.end = Math.max(s.end, one.end);
                    one.all.addAll(s.all);
                    one.untold.addAll(s.untold);
                    one.fires = Math.max(one.fires, s.fires);
                    anyEnded = anyEnded || s.ended;
                    again = true;
                    break;
                }
            }
        }
        one.ended = anyEnded && one.end <= mark;
        if (gone(one.end)) {
            return drop();
        }
        if (rows.size() == 300 || rest.size() + 1 > 200) {
            return -4;
        }
        came++;
        rows.add(row);
        rest.add(one);
        spans = rest;
        put(one, row);
        return 1;
    }

    private int timedRow(Row row) {
        List<Span> into = new ArrayList<>();
        int fresh = 0;
        for (long[] be : places(row)) {
            if (gone(be[1])) {
                continue;
            }
            Span known = null;
            for (Span s : spans) {
                if (s.key == row.key && s.begin == be[0] && s.end == be[1]) {
                    known = s;
                }
            }
            fresh += known == null ? 1 : 0;
            into.add(known == null ? new Span(row.key, be[0], be[1]) : known);
        }
        if (into.isEmpty()) {
            return drop();
        }
        if (rows.size() == 300 || spans.size() + fresh > 200) {
            return -4;
        }
        came++;
        rows.add(row);
        for (Span s : into) {
            if (!spans.contains(s)) {
                spans.add(s);
            }
            put(s, row);
        }
        return into.size();
    }

    private List<long[]> places(Row row) {
        List<long[]> out = new ArrayList<>();
        long t = row.time;
        if (kind == 0) {
            out.add(besideOf(t, size));
        } else if (kind == 1) {
            long middle = (t - offset) / step;
            for (long i = middle - 20; i <= middle + 20; i++) {
                long begin = offset + step * i;
                if (begin <= t && t < begin + size) {
                    out.add(new long[] {begin, begin + size});
                }
            }
        } else if (kind == 4) {
            LocalDate day = LocalDate.ofEpochDay(t);
            long m = (day.getYear() - 1970L) * 12 + day.getMonthValue() - 1;
            long first = m - Math.floorMod(m - offset, size);
            LocalDate from = LocalDate.of(1970, 1, 1).plusMonths(first);
            out.add(new long[] {from.toEpochDay(), from.plusMonths(size).toEpochDay()});
        } else if (rule == 0) {
            long in = Math.floorMod(t - offset, size + step);
            out.add(in < size ? new long[] {t - in, t - in + size} : new long[] {t - in + size, t - in + size + step});
        } else if (rule == 1) {
            out.add(besideOf(t, row.value < 0 ? step : size));
        } else {
            out.add(doubled(t - offset));
        }
        return out;
    }

    private long[] besideOf(long t, long length) {
        long begin = t - Math.floorMod(t - offset, length);
        return new long[] {begin, begin + length};
    }

    private long[] doubled(long u) {
        if (u == 0) {
            return new long[] {offset, offset + 1};
        }
        if (u == -1) {
            return new long[] {offset - 1, offset};
        }
        for (long low = 1;; low *= 2) {
            if (low <= u && u < 2 * low) {
                return new long[] {offset + low, offset + 2 * low};
            }
            if (-2 * low <= u && u < -low) {
                return new long[] {offset - 2 * low, offset - low};
            }
        }
    }

    private void put(Span s, Row row) {
        s.all.add(row);
        s.untold.add(row);
        if (s.end > mark) {
            if (every > 0 && s.untold.size() >= every) {
                fire(s, 0);
            }
        } else if (lately) {
            fire(s, 2);
        }
    }

    private void fire(Span s, int how) {
        s.fires++;
        s.ended = s.ended || how != 0;
        tell(s.key, s.begin, s.end, how, clears ? s.untold : s.all, s.fires);
        s.untold.clear();
    }

    private void tell(int key, long begin, long end, int how, List<Row> of, int which) {
        long[] c = contents(of);
        firings.add(new long[] {key, begin, end, how, c[0], c[1], c[2], c[3], c[4], which});
        if (firings.size() > 400) {
            firings.remove(0);
        }
        total++;
        early += how == 0 ? 1 : 0;
        latelyFired += how == 2 ? 1 : 0;
    }

    long[] contents(List<Row> of) {
        List<Row> sorted = new ArrayList<>();
        for (Row r : rows) {
            if (of.contains(r)) {
                sorted.add(r);
            }
        }
        sorted.sort(Comparator.comparingLong(r -> r.time));
        long sum = 0;
        long mix = 0;
        for (Row r : sorted) {
            sum += r.value;
            mix = mix * 31 + r.value;
        }
        long least = sorted.stream().mapToLong(r -> r.value).min().orElse(0);
        long greatest = sorted.stream().mapToLong(r -> r.value).max().orElse(0);
        return new long[] {sorted.size(), sum, least, greatest, mix};
    }

    int comeTo(long time) {
        if (time < -10000000000000L || time > 10000000000000L) {
            return -2;
        }
        if (time < mark) {
            return -3;
        }
        mark = time;
        int before = total;
        if (kind == 3) {
            endCounted();
        } else {
            List<Span> due = new ArrayList<>(spans);
            due.removeIf(s -> s.ended || s.end > mark);
            due.sort(Comparator.<Span>comparingLong(s -> s.end).thenComparingLong(s -> s.key).thenComparingLong(s -> s.begin));
            for (Span s : due) {
                fire(s, 1);
            }
            spans.removeIf(s -> gone(s.end));
            rows.removeIf(r -> spans.stream().noneMatch(s -> s.all.contains(r)));
        }
        return total - before;
    }

    private void endCounted() {
        for (int key = 0; key < 8; key++) {
            int k = key;
            List<Row> mine = new ArrayList<>(rows);
            mine.removeIf(r -> r.key != k || r.number >= 0 || r.time >= mark);
            mine.sort(Comparator.comparingLong(r -> r.time));
            for (Row r : mine) {
                r.number = numbered.merge(key, 1, Integer::sum) - 1;
            }
            while (step * firedOf.getOrDefault(key, 0) + size <= numbered.getOrDefault(key, 0)) {
                long begin = step * firedOf.getOrDefault(key, 0);
                List<Row> of = new ArrayList<>(rows);
                of.removeIf(r -> r.key != k || r.number < begin || r.number >= begin + size);
                if (of.size() != size) {
                    throw new IllegalStateException("the model lost a row");
                }
                tell(key, begin, begin + size, 1, of, 1);
                firedOf.merge(key, 1, Integer::sum);
            }
        }
        rows.removeIf(r -> r.number >= 0 && !couldBeHad(r));
    }

    private boolean couldBeHad(Row r) {
        for (long i = firedOf.getOrDefault(r.key, 0); step * i <= r.number; i++) {
            if (r.number < step * i + size) {
                return true;
            }
        }
        return false;
    }

    List<Span> ofKey(int key) {
        List<Span> out = new ArrayList<>(spans);
        out.removeIf(s -> s.key != key);
        out.sort(Comparator.<Span>comparingLong(s -> s.begin).thenComparingLong(s -> s.end));
        return out;
    }
}
