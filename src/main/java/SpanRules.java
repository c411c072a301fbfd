/**
 * Rows of a stream fall into spans of time, by rules; spans fire early, at their end and late,
 * and go when no row can come to them any more. The words in capitals are the document's.
 */
public final class SpanRules {
    public static final int NONE = -1;

    private static final int OUTSIDE = -2;
    private static final int NOT_SO = -3;
    private static final int NO_ROOM = -4;
    private static final long UNKNOWN = -1000000000000001L;
    private static final long WRONG_WHAT = -1000000000000002L;
    private static final int NO_MONTH = -2000000000;

    private static final int BESIDE = 0;
    private static final int SLIDING = 1;
    private static final int GAPS = 2;
    private static final int COUNTED = 3;
    private static final int MONTHS = 4;
    private static final int OWN = 5;

    private static final int EARLY = 0;
    private static final int AT_ITS_END = 1;
    private static final int LATELY = 2;

    private static final int KEYS = 8;
    private static final int RULES = 3;
    private static final int MOST_FORBIDDEN = 8;
    private static final int MOST_ROWS = 300;
    private static final int MOST_SPANS = 200;
    private static final int MOST_SPANS_OF_A_ROW = 16;
    private static final int MOST_FIRINGS = 400;
    private static final int MOST_LENGTH = 65536;
    private static final int MOST_MONTHS = 12;
    private static final int MOST_EVERY = 1000;
    private static final int MOST_MONTH = 3000000;
    private static final long MOST_TIME = 1000000000000L;
    private static final long MOST_DAY = 100000000L;
    private static final long MOST_MARK = 10000000000000L;
    private static final long MOST_SETTING = 1000000000L;

    private final Layout layout;
    private final Forbidden forbidden = new Forbidden();
    private final RowStore rows = new RowStore();
    private final SpanStore open = new SpanStore();
    private final Numbering numbering = new Numbering();
    private final FiringStore firings = new FiringStore();
    private final Contents contents = new Contents();
    private long lateBy = 0;
    private long theMark = -MOST_MARK;
    private int every = 0;
    private boolean latelyOn = true;
    private boolean clearsOn = false;
    private int came = 0;
    private int dropped = 0;

    public SpanRules(int kind, int size, int step) {
        int ofKind = nearest(kind, BESIDE, OWN);
        int ofSize = nearest(size, 1, ofKind == MONTHS ? MOST_MONTHS : MOST_LENGTH);
        // a row may be in 16 sliding spans at the most
        int leastStep = ofKind == SLIDING ? (ofSize + MOST_SPANS_OF_A_ROW - 1) / MOST_SPANS_OF_A_ROW : 1;
        layout = new Layout(ofKind, ofSize, nearest(step, leastStep, MOST_LENGTH));
    }

    public int offset(long v) {
        if (!isWithin(v, -MOST_SETTING, MOST_SETTING)) {
            return OUTSIDE;
        }
        if (came > 0) {
            return NOT_SO;
        }
        layout.shift = v;
        return 1;
    }

    public int lateness(long v) {
        if (!isWithin(v, 0, MOST_SETTING)) {
            return OUTSIDE;
        }
        if (came > 0 || layout.kind == COUNTED) {
            return NOT_SO;
        }
        lateBy = v;
        return 1;
    }

    public int trigger(int every, boolean late) {
        if (!isWithin(every, 0, MOST_EVERY)) {
            return OUTSIDE;
        }
        if (layout.kind == COUNTED) {
            return NOT_SO;
        }
        this.every = every;
        latelyOn = late;
        return 1;
    }

    public int clears(boolean on) {
        if (layout.kind == COUNTED) {
            return NOT_SO;
        }
        if (clearsOn == on) {
            return 0;
        }
        clearsOn = on;
        return 1;
    }

    public int rule(int r) {
        if (!isWithin(r, 0, RULES - 1)) {
            return OUTSIDE;
        }
        if (layout.kind != OWN) {
            return NOT_SO;
        }
        int before = layout.ownRule;
        layout.ownRule = r;
        return before;
    }

    public int forbid(int r, long v) {
        if (!isWithin(r, 0, RULES - 1)) {
            return OUTSIDE;
        }
        if (layout.kind != OWN) {
            return NOT_SO;
        }
        return forbidden.add(r, v);
    }

    public int row(int key, long time, long value) throws ArithmeticException {
        if (!isKey(key)) {
            return NONE;
        }
        long most = layout.kind == MONTHS ? MOST_DAY : MOST_TIME;
        if (!isWithin(time, -most, most)) {
            return OUTSIDE;
        }
        if (layout.kind == OWN && forbidden.has(layout.ownRule, value)) {
            throw new ArithmeticException("this value is forbidden");
        }
        if (layout.kind == COUNTED) {
            return putWaiting(key, time, value);
        }
        if (layout.kind == GAPS) {
            return putByGap(key, time, value);
        }
        return putByLayout(key, time, value);
    }

    public int mark(long time) {
        if (!isWithin(time, -MOST_MARK, MOST_MARK)) {
            return OUTSIDE;
        }
        if (time < theMark) {
            return NOT_SO;
        }
        theMark = time;
        return layout.kind == COUNTED ? endCounted() : endSpans();
    }

    public int count(int what) {
        switch (what) {
            case 0:
                return rows.kept;
            case 1:
                return open.kept;
            case 2:
                return firings.total;
            case 3:
                return dropped;
            case 4:
                return came;
            case 5:
                return firings.kept();
            case 6:
                return firings.early;
            case 7:
                return firings.lately;
            default:
                return OUTSIDE;
        }
    }

    public long fired(int k, int what) {
        if (!isWithin(k, 0, firings.kept() - 1)) {
            return UNKNOWN;
        }
        if (!isWithin(what, 0, FiringStore.CELLS - 1)) {
            return WRONG_WHAT;
        }
        return firings.cell(k, what);
    }

    public int spans(int key) {
        if (!isKey(key)) {
            return NONE;
        }
        return layout.kind == COUNTED ? numbering.numbered[key] : open.ofKey(key);
    }

    public long span(int key, int i, int what) {
        int slot = open.nthOfKey(key, i);
        if (slot == NONE) {
            return UNKNOWN;
        }
        switch (what) {
            case 1:
                return open.begins[slot];
            case 2:
                return open.ends[slot];
            case 4:
            case 5:
            case 6:
            case 7:
            case 8:
                gather(slot, open.had);
                return contents.part(what);
            case 9:
                return open.fires[slot];
            case 10:
                return open.since[slot];
            default:
                return WRONG_WHAT;
        }
    }

    public int month(int m) {
        return isWithin(m, -MOST_MONTH, MOST_MONTH) ? (int) Calendar.firstDay(m) : NO_MONTH;
    }

    private static int nearest(int v, int least, int most) {
        return v < least ? least : v > most ? most : v;
    }

    private static boolean isWithin(long v, long least, long most) {
        return v >= least && v <= most;
    }

    private static boolean isKey(int key) {
        return isWithin(key, 0, KEYS - 1);
    }

    /** a BY b: the whole number not above a / b. */
    private static long by(long a, long b) {
        return b < 1 ? 0 : Math.floorDiv(a, b);
    }

    private boolean isGone(long end) {
        return end + lateBy <= theMark;
    }

    private int dropLate() {
        came++;
        dropped++;
        return 0;
    }

    private int putWaiting(int key, long time, long value) {
        if (time < theMark) {
            return dropLate();
        }
        if (rows.isFull()) {
            return NO_ROOM;
        }
        rows.add(key, time, value);
        came++;
        return 1;
    }

    private int putByGap(int key, long time, long value) {
        long end = time + layout.size;
        if (isGone(open.joinedEnd(key, time, end))) {
            return dropLate();
        }
        if (rows.isFull() || open.kept - open.sharing(key, time, end) >= MOST_SPANS) {
            return NO_ROOM;
        }
        int slot = open.join(key, time, end);
        // what fired at an earlier end has not fired at the end that it has now
        if (open.ends[slot] > theMark) {
            open.ended[slot] = false;
        }
        came++;
        putAndFire(slot, rows.add(key, time, value));
        return 1;
    }

    private int putByLayout(int key, long time, long value) {
        layout.seek(time, value);
        layout.keepEndsAbove(theMark - lateBy);
        if (layout.found == 0) {
            return dropLate();
        }
        if (rows.isFull() || open.kept + newOnes(key) > MOST_SPANS) {
            return NO_ROOM;
        }
        came++;
        int row = rows.add(key, time, value);
        for (int i = 0; i < layout.found; i++) {
            int slot = open.find(key, layout.begins[i], layout.ends[i]);
            if (slot == NONE) {
                slot = open.add(key, layout.begins[i], layout.ends[i]);
            }
            putAndFire(slot, row);
        }
        return layout.found;
    }

    private int newOnes(int key) {
        int n = 0;
        for (int i = 0; i < layout.found; i++) {
            if (open.find(key, layout.begins[i], layout.ends[i]) == NONE) {
                n++;
            }
        }
        return n;
    }

    private void putAndFire(int slot, int row) {
        open.put(slot, row);
        if (open.ends[slot] <= theMark) {
            if (latelyOn) {
                fire(slot, LATELY);
            }
        } else if (every > 0 && open.since[slot] >= every) {
            fire(slot, EARLY);
        }
    }

    private void fire(int slot, int how) {
        gather(slot, clearsOn ? open.untold : open.had);
        open.noteFired(slot, how);
        firings.add(open.keys[slot], open.begins[slot], open.ends[slot], how, open.fires[slot], contents);
    }

    /** The CONTENTS of those rows of a span that are in a set. */
    private void gather(int slot, long[] set) {
        contents.clear();
        for (int place = 0; place < rows.kept; place++) {
            int row = rows.order[place];
            if (SpanStore.isIn(set, slot, row)) {
                contents.add(rows.values[row]);
            }
        }
    }

    private int endSpans() {
        int due = open.seekDue(theMark);
        for (int i = 0; i < due; i++) {
            fire(open.due[i], AT_ITS_END);
        }
        open.dropEndsUpTo(theMark - lateBy);
        open.uniteRows();
        for (int place = 0; place < rows.kept; place++) {
            int row = rows.order[place];
            rows.leaves[row] = !SpanStore.isIn(open.united, 0, row);
        }
        rows.sweep();
        return due;
    }

    private int endCounted() {
        numberRows();
        int fires = 0;
        for (int key = 0; key < KEYS; key++) {
            fires += fireCounted(key);
        }
        for (int place = 0; place < rows.kept; place++) {
            int row = rows.order[place];
            rows.leaves[row] = isNumbered(row) && !isWaitedFor(row);
        }
        rows.sweep();
        return fires;
    }

    private boolean isNumbered(int row) {
        return rows.numbers[row] != NONE;
    }

    /** Whether the last span that could have a row is still to fire. */
    private boolean isWaitedFor(int row) {
        long begin = layout.step * by(rows.numbers[row], layout.step);
        return begin + layout.size > numbering.numbered[rows.keys[row]];
    }

    private void numberRows() {
        for (int place = 0; place < rows.kept; place++) {
            int row = rows.order[place];
            if (!isNumbered(row) && rows.times[row] < theMark) {
                rows.numbers[row] = numbering.numbered[rows.keys[row]]++;
            }
        }
    }

    private int fireCounted(int key) {
        int fires = 0;
        long begin = numbering.begins[key];
        for (; begin + layout.size <= numbering.numbered[key]; begin += layout.step) {
            gatherCounted(key, begin);
            firings.add(key, begin, begin + layout.size, AT_ITS_END, 1, contents);
            fires++;
        }
        numbering.begins[key] = begin;
        return fires;
    }

    private void gatherCounted(int key, long begin) {
        contents.clear();
        for (int place = 0; place < rows.kept; place++) {
            int row = rows.order[place];
            if (rows.keys[row] == key && isWithin(rows.numbers[row], begin, begin + layout.size - 1)) {
                contents.add(rows.values[row]);
            }
        }
    }

    /** The calendar of the MONTHS, whose numbers count from January 1970 on. */
    private static final class Calendar {
        private static final long MONTHS_OF_400_YEARS = 4800;
        private static final long DAYS_OF_400_YEARS = 146097;
        /** From March of the year 0 to January 1970. */
        private static final long MONTHS_BEFORE = 23638;
        private static final long DAYS_BEFORE = 719468;

        /** Years are counted from March on: then a leap day is the last of its year. */
        static long firstDay(long month) {
            long fromMarch = month + MONTHS_BEFORE;
            long year = Math.floorDiv(fromMarch, 12L);
            long leapDays = Math.floorDiv(year, 4L) - Math.floorDiv(year, 100L) + Math.floorDiv(year, 400L);
            // five months from March or August on have 153 days, long and short by turns
            long daysOfYear = (153 * (fromMarch - 12 * year) + 2) / 5;
            return 365 * year + leapDays + daysOfYear - DAYS_BEFORE;
        }

        static long monthOf(long day) {
            // the even share of days is off by less than two months, so this starts low and goes up
            long month = Math.floorDiv(day * MONTHS_OF_400_YEARS, DAYS_OF_400_YEARS) - 2;
            for (int i = 0; i < 5 && firstDay(month + 1) <= day; i++) {
                month++;
            }
            return month;
        }
    }

    /** Which spans a row would be in, for the kinds whose spans do not hang on other rows. */
    private static final class Layout {
        final int kind;
        final long size;
        final long step;
        final long[] begins = new long[MOST_SPANS_OF_A_ROW];
        final long[] ends = new long[MOST_SPANS_OF_A_ROW];
        long shift = 0;
        int ownRule = 0;
        int found = 0;

        Layout(int kind, int size, int step) {
            this.kind = kind;
            this.size = size;
            this.step = step;
        }

        /** Finds them by BEGIN. */
        void seek(long time, long value) {
            found = 0;
            if (kind == SLIDING) {
                slide(time);
            } else if (kind == MONTHS) {
                inMonths(time);
            } else if (kind == OWN) {
                byOwnRule(time, value);
            } else {
                beside(time, size);
            }
        }

        void keepEndsAbove(long bound) {
            int left = 0;
            for (int i = 0; i < found; i++) {
                if (ends[i] > bound) {
                    begins[left] = begins[i];
                    ends[left] = ends[i];
                    left++;
                }
            }
            found = left;
        }

        private void add(long begin, long end) {
            if (found < MOST_SPANS_OF_A_ROW) {
                begins[found] = begin;
                ends[found] = end;
                found++;
            }
        }

        private void beside(long time, long length) {
            long begin = shift + length * by(time - shift, length);
            add(begin, begin + length);
        }

        private void slide(long time) {
            long last = by(time - shift, step);
            for (long i = by(time - shift - size, step) + 1; i <= last; i++) {
                add(shift + step * i, shift + step * i + size);
            }
        }

        private void inMonths(long day) {
            long first = shift + size * by(Calendar.monthOf(day) - shift, size);
            add(Calendar.firstDay(first), Calendar.firstDay(first + size));
        }

        private void byOwnRule(long time, long value) {
            if (ownRule == 0) {
                byTurns(time);
            } else if (ownRule == 1) {
                beside(time, value < 0 ? step : size);
            } else {
                doubling(time);
            }
        }

        private void byTurns(long time) {
            long begin = shift + (size + step) * by(time - shift, size + step);
            if (time < begin + size) {
                add(begin, begin + size);
            } else {
                add(begin + size, begin + size + step);
            }
        }

        private void doubling(long time) {
            long u = time - shift;
            // -1 mirrors 0, -2 mirrors 1: a BEGIN is of its span, an END is not
            long distance = u < 0 ? -1 - u : u;
            long from = 0;
            long to = 1;
            for (int i = 0; i < 62 && to <= distance; i++) {
                from = to;
                to = 2 * to;
            }
            if (u < 0) {
                add(shift - to, shift - from);
            } else {
                add(shift + from, shift + to);
            }
        }
    }

    /** The FORBIDDEN VALUES of each RULE. */
    private static final class Forbidden {
        private final long[] values = new long[RULES * MOST_FORBIDDEN];
        private final int[] known = new int[RULES];

        boolean has(int rule, long value) {
            for (int i = 0; i < known[rule]; i++) {
                if (values[rule * MOST_FORBIDDEN + i] == value) {
                    return true;
                }
            }
            return false;
        }

        int add(int rule, long value) {
            if (has(rule, value)) {
                return known[rule];
            }
            if (known[rule] >= MOST_FORBIDDEN) {
                return NO_ROOM;
            }
            values[rule * MOST_FORBIDDEN + known[rule]] = value;
            known[rule]++;
            return known[rule];
        }
    }

    /** The rows that are kept. A row keeps its slot; the order tells them by TIME, then as they came. */
    private static final class RowStore {
        final int[] keys = new int[MOST_ROWS];
        final long[] times = new long[MOST_ROWS];
        final long[] values = new long[MOST_ROWS];
        final int[] numbers = new int[MOST_ROWS];
        final boolean[] leaves = new boolean[MOST_ROWS];
        /** The slots of the rows kept, and behind them the free slots. */
        final int[] order = new int[MOST_ROWS];
        int kept = 0;

        RowStore() {
            for (int i = 0; i < MOST_ROWS; i++) {
                order[i] = i;
            }
        }

        boolean isFull() {
            return kept >= MOST_ROWS;
        }

        /** Takes a free slot; to be asked only if it is not full. */
        int add(int key, long time, long value) {
            int slot = order[kept];
            keys[slot] = key;
            times[slot] = time;
            values[slot] = value;
            numbers[slot] = NONE;
            int place = kept;
            while (place > 0 && times[order[place - 1]] > time) {
                order[place] = order[place - 1];
                place--;
            }
            order[place] = slot;
            kept++;
            return slot;
        }

        /** Frees the slots of the rows that leave. */
        void sweep() {
            int left = 0;
            for (int place = 0; place < kept; place++) {
                int slot = order[place];
                if (!leaves[slot]) {
                    order[place] = order[left];
                    order[left] = slot;
                    left++;
                }
            }
            kept = left;
        }
    }

    /** The spans that are kept, each with the set of its rows. The order tells them by KEY, BEGIN, END. */
    private static final class SpanStore {
        private static final int WORDS = 5;
        private static final int WORD_BITS = 64;

        final int[] keys = new int[MOST_SPANS];
        final long[] begins = new long[MOST_SPANS];
        final long[] ends = new long[MOST_SPANS];
        final int[] fires = new int[MOST_SPANS];
        final int[] since = new int[MOST_SPANS];
        /** Whether it FIRED AT ITS END or LATELY. */
        final boolean[] ended = new boolean[MOST_SPANS];
        /** The rows of each span, a bit for the row's slot. */
        final long[] had = new long[MOST_SPANS * WORDS];
        /** Those of them that were put since it last FIRED. */
        final long[] untold = new long[MOST_SPANS * WORDS];
        final long[] united = new long[WORDS];
        final int[] due = new int[MOST_SPANS];
        /** The slots of the spans kept, and behind them the free slots. */
        final int[] order = new int[MOST_SPANS];
        int kept = 0;

        SpanStore() {
            for (int i = 0; i < MOST_SPANS; i++) {
                order[i] = i;
            }
        }

        static boolean isIn(long[] set, int slot, int row) {
            return (set[slot * WORDS + row / WORD_BITS] & (1L << row % WORD_BITS)) != 0;
        }

        int find(int key, long begin, long end) {
            for (int place = 0; place < kept; place++) {
                int slot = order[place];
                if (keys[slot] == key && begins[slot] == begin && ends[slot] == end) {
                    return slot;
                }
            }
            return NONE;
        }

        int ofKey(int key) {
            int n = 0;
            for (int place = 0; place < kept; place++) {
                if (keys[order[place]] == key) {
                    n++;
                }
            }
            return n;
        }

        int nthOfKey(int key, int n) {
            int before = 0;
            for (int place = 0; place < kept; place++) {
                int slot = order[place];
                if (keys[slot] == key) {
                    if (before == n) {
                        return slot;
                    }
                    before++;
                }
            }
            return NONE;
        }

        /** Takes a free slot; to be asked only if fewer than MOST_SPANS are kept. */
        int add(int key, long begin, long end) {
            int slot = order[kept];
            keys[slot] = key;
            begins[slot] = begin;
            ends[slot] = end;
            fires[slot] = 0;
            since[slot] = 0;
            ended[slot] = false;
            for (int i = slot * WORDS; i < slot * WORDS + WORDS; i++) {
                had[i] = 0;
                untold[i] = 0;
            }
            int place = kept;
            while (place > 0 && isBehind(order[place - 1], slot)) {
                order[place] = order[place - 1];
                place--;
            }
            order[place] = slot;
            kept++;
            return slot;
        }

        private boolean isBehind(int a, int b) {
            if (keys[a] != keys[b]) {
                return keys[a] > keys[b];
            }
            return begins[a] != begins[b] ? begins[a] > begins[b] : ends[a] > ends[b];
        }

        void put(int slot, int row) {
            int word = slot * WORDS + row / WORD_BITS;
            had[word] |= 1L << row % WORD_BITS;
            untold[word] |= 1L << row % WORD_BITS;
            since[slot]++;
        }

        void noteFired(int slot, int how) {
            fires[slot]++;
            since[slot] = 0;
            if (how != EARLY) {
                ended[slot] = true;
            }
            for (int i = slot * WORDS; i < slot * WORDS + WORDS; i++) {
                untold[i] = 0;
            }
        }

        private boolean shares(int slot, int key, long begin, long end) {
            return keys[slot] == key && begins[slot] < end && begin < ends[slot];
        }

        int sharing(int key, long begin, long end) {
            int n = 0;
            for (int place = 0; place < kept; place++) {
                if (shares(order[place], key, begin, end)) {
                    n++;
                }
            }
            return n;
        }

        /** The END of what a span from begin to end would become. */
        long joinedEnd(int key, long begin, long end) {
            long joined = end;
            for (int place = 0; place < kept; place++) {
                int slot = order[place];
                if (shares(slot, key, begin, end)) {
                    joined = Math.max(joined, ends[slot]);
                }
            }
            return joined;
        }

        /** Makes one span of begin to end and all that share a time with it. */
        int join(int key, long begin, long end) {
            int one = NONE;
            for (int place = 0; place < kept; place++) {
                int slot = order[place];
                if (shares(slot, key, begin, end)) {
                    if (one == NONE) {
                        one = slot;
                    } else {
                        absorb(one, slot);
                    }
                }
            }
            if (one == NONE) {
                return add(key, begin, end);
            }
            // its place stays right: spans of a KEY share no time, so none begins in between
            begins[one] = Math.min(begins[one], begin);
            ends[one] = Math.max(ends[one], end);
            sweep();
            return one;
        }

        private void absorb(int one, int other) {
            ends[one] = Math.max(ends[one], ends[other]);
            fires[one] = Math.max(fires[one], fires[other]);
            since[one] += since[other];
            ended[one] = ended[one] || ended[other];
            for (int i = 0; i < WORDS; i++) {
                had[one * WORDS + i] |= had[other * WORDS + i];
                untold[one * WORDS + i] |= untold[other * WORDS + i];
            }
            keys[other] = NONE;
        }

        /** Lists in due what is to FIRE AT ITS END, by END, then KEY, then BEGIN. */
        int seekDue(long mark) {
            int n = 0;
            for (int place = 0; place < kept; place++) {
                int slot = order[place];
                if (!ended[slot] && ends[slot] <= mark) {
                    // the order has KEY and BEGIN already, so END alone is looked at
                    int at = n;
                    while (at > 0 && ends[due[at - 1]] > ends[slot]) {
                        due[at] = due[at - 1];
                        at--;
                    }
                    due[at] = slot;
                    n++;
                }
            }
            return n;
        }

        void dropEndsUpTo(long bound) {
            for (int place = 0; place < kept; place++) {
                int slot = order[place];
                if (ends[slot] <= bound) {
                    keys[slot] = NONE;
                }
            }
            sweep();
        }

        /** Frees the slots of the spans whose KEY was taken away. */
        private void sweep() {
            int left = 0;
            for (int place = 0; place < kept; place++) {
                int slot = order[place];
                if (keys[slot] != NONE) {
                    order[place] = order[left];
                    order[left] = slot;
                    left++;
                }
            }
            kept = left;
        }

        /** Puts the rows of all spans into united. */
        void uniteRows() {
            for (int i = 0; i < WORDS; i++) {
                united[i] = 0;
                for (int place = 0; place < kept; place++) {
                    united[i] |= had[order[place] * WORDS + i];
                }
            }
        }
    }

    /** COUNTED: of each KEY how many rows are numbered, and the BEGIN of the span that FIRES next. */
    private static final class Numbering {
        final int[] numbered = new int[KEYS];
        final long[] begins = new long[KEYS];
    }

    /** What is told of some rows, which are added by TIME. */
    private static final class Contents {
        private int rows;
        private long sum;
        private long least;
        private long greatest;
        private long mix;

        void clear() {
            rows = 0;
            sum = 0;
            least = 0;
            greatest = 0;
            mix = 0;
        }

        void add(long value) {
            least = rows == 0 ? value : Math.min(least, value);
            greatest = rows == 0 ? value : Math.max(greatest, value);
            rows++;
            sum += value;
            mix = 31 * mix + value;
        }

        /** By the numbers 4 to 8 that fired() and span() use. */
        long part(int what) {
            switch (what) {
                case 4:
                    return rows;
                case 5:
                    return sum;
                case 6:
                    return least;
                case 7:
                    return greatest;
                default:
                    return mix;
            }
        }
    }

    /** The FIRINGS that are kept, in a ring whose oldest place is written next. */
    private static final class FiringStore {
        static final int CELLS = 10;

        private final long[] cells = new long[MOST_FIRINGS * CELLS];
        int total = 0;
        int early = 0;
        int lately = 0;

        int kept() {
            return Math.min(total, MOST_FIRINGS);
        }

        long cell(int k, int what) {
            return cells[(total - kept() + k) % MOST_FIRINGS * CELLS + what];
        }

        void add(int key, long begin, long end, int how, int which, Contents told) {
            int at = total % MOST_FIRINGS * CELLS;
            cells[at] = key;
            cells[at + 1] = begin;
            cells[at + 2] = end;
            cells[at + 3] = how;
            for (int what = 4; what <= 8; what++) {
                cells[at + what] = told.part(what);
            }
            cells[at + 9] = which;
            total++;
            if (how == EARLY) {
                early++;
            } else if (how == LATELY) {
                lately++;
            }
        }
    }
}
