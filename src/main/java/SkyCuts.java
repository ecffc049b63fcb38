import java.util.Arrays;
import java.util.NoSuchElementException;

/**
 * The sky cut for hands: cells, streams, pieces, and what may be asked of them.
 * The face tests every argument; the classes inside are only called with arguments that hold.
 */
public final class SkyCuts {
    public static final int NONE = -1;

    private static final int CELLS = 128;
    private static final int LAYER = 64;
    private static final int PIECES = 8;
    private static final int QUARTERS = 24;
    private static final int STREAMS = 12;
    private static final int WAY_CELLS = 24;
    private static final int WAY_BYTES = 100;

    private final Text tape = new Text();
    private final Streams air = new Streams();
    private final Rules book = new Rules(tape);
    private final Parting parting = new Parting();
    private final Ear ear = new Ear(air, book);
    private final Mover mover = new Mover(air, parting, ear);
    private final Region patch = new Region(air, ear);
    private final Plans plans = new Plans(air, book, parting, ear);
    private final Rota watches = new Rota(plans);
    private final Storm tempest = new Storm(air, book, parting);
    private final Fits fits = new Fits();

    public SkyCuts() {
    }

    public int feed(int a, int b, int c, int d, int e) {
        return tape.takeAll(a, b, c, d, e);
    }

    public int stream(int n) throws IllegalArgumentException {
        if (n < 0 || n > tape.size || n > WAY_BYTES) {
            throw new IllegalArgumentException("no such text on the tape");
        }
        tape.open(n, false);
        if (!air.readWay(tape)) {
            return tape.faultKind - 10;
        }
        return air.addTrial();
    }

    public int rules(int n) throws IllegalArgumentException {
        if (n < 0 || n > tape.size) {
            throw new IllegalArgumentException("no such text on the tape");
        }
        tape.open(n, true);
        return book.read() ? book.clauses : tape.faultKind - 10;
    }

    public int fault() {
        return tape.faultPlace;
    }

    public int way(int stream, int k) throws NoSuchElementException {
        needStream(stream);
        return air.cellAt(stream, k);
    }

    public void flow(int stream, int from, int to, int count) throws NoSuchElementException, IllegalArgumentException {
        needStream(stream);
        needQuarter(from);
        needQuarter(to);
        needWithin(count, 0, 50);
        if (from > to) {
            throw new IllegalArgumentException("from is above to");
        }
        air.setCounts(stream, from, to, count);
    }

    public void span(int stream, int early, int late) throws NoSuchElementException, IllegalArgumentException {
        needStream(stream);
        needWithin(early, 0, 2);
        needWithin(late, 0, 2);
        air.setSpan(stream, early, late);
    }

    public int most(int stream, int quarter) throws NoSuchElementException, IllegalArgumentException {
        needStream(stream);
        needQuarter(quarter);
        return air.mosts[quarter * STREAMS + stream];
    }

    public int assign(int cell, int piece) throws IndexOutOfBoundsException, IllegalArgumentException {
        needCell(cell);
        needWithin(piece, NONE, PIECES - 1);
        return parting.put(cell, piece);
    }

    public int paint(int from, int to, int piece) throws IndexOutOfBoundsException, IllegalArgumentException {
        needCell(from);
        needCell(to);
        needWithin(piece, NONE, PIECES - 1);
        if (from / LAYER != to / LAYER || (from & 7) > (to & 7) || (from >> 3 & 7) > (to >> 3 & 7)) {
            throw new IllegalArgumentException("from and to span no cells of one layer");
        }
        return parting.putAll(from, to, piece);
    }

    public int limit(int piece, int v) throws IllegalArgumentException {
        needPiece(piece);
        needWithin(v, 0, 9999);
        int was = parting.limits[piece];
        parting.limits[piece] = v;
        return was;
    }

    public int hears(int piece, int quarter, int what) throws IllegalArgumentException {
        needPiece(piece);
        needQuarter(quarter);
        needWithin(what, 0, 4);
        listenTo(piece);
        int load = ear.loadAt(quarter, NONE);
        return what == 4 ? load : ear.heard[what];
    }

    public int peak(int piece, int what) throws IllegalArgumentException {
        needPiece(piece);
        needWithin(what, 0, 1);
        listenTo(piece);
        int greatest = ear.findPeak();
        return what == 0 ? greatest : ear.peakQuarter;
    }

    public boolean whole(int piece) throws IllegalArgumentException {
        needPiece(piece);
        return Parting.hangs(parting.lo[piece], parting.hi[piece]);
    }

    public int neck(int piece, int k) throws IllegalArgumentException {
        needPiece(piece);
        return parting.neckAt(piece, k);
    }

    public int shorts(int piece) throws IllegalArgumentException {
        needPiece(piece);
        return air.shorterThan(parting.stretch, parting.lo[piece], parting.hi[piece]);
    }

    public int length(int v) throws IllegalArgumentException {
        needWithin(v, 0, 9);
        int was = parting.stretch;
        parting.stretch = v;
        return was;
    }

    public int edge(int piece) throws IllegalArgumentException {
        needPiece(piece);
        return parting.countAtEdge(piece, air.allMeets(0), air.allMeets(1));
    }

    public boolean holds() {
        for (int p = 0; p < PIECES; p++) {
            if (parting.hasCells(p) && !mover.stands(p)) {
                return false;
            }
        }
        return true;
    }

    public int cost() {
        mover.measure();
        return mover.priceNow();
    }

    public int better(int what) throws IllegalArgumentException {
        needWithin(what, 0, 2);
        if (!mover.seek()) {
            return NONE;
        }
        return what == 0 ? mover.bestCell : what == 1 ? mover.bestPiece : mover.bestPrice;
    }

    public int grow(int many) throws IllegalArgumentException {
        needWithin(many, 0, 20);
        for (int made = 0; made < many; made++) {
            if (!mover.seek()) {
                return made;
            }
            parting.put(mover.bestCell, mover.bestPiece);
        }
        return many;
    }

    public int region(int cell) throws IndexOutOfBoundsException {
        needCell(cell);
        return patch.add(cell);
    }

    public int parted(int m, int what) throws IllegalArgumentException {
        needWithin(m, 1, 3);
        needWithin(what, -2, 7);
        if (what >= patch.size || !patch.solve(m)) {
            return NONE;
        }
        return what == -1 ? patch.bestPeak : what == -2 ? patch.bestOver : patch.bestHeaps[what];
    }

    public int clear() {
        int had = patch.size;
        patch.size = 0;
        return had;
    }

    public int configure(int groups) throws IllegalArgumentException {
        needWithin(groups, 0, (1 << 24) - 1);
        return plans.add(groups);
    }

    public int pairs(int configuration, int quarter) throws NoSuchElementException, IllegalArgumentException {
        if (configuration < 0 || configuration >= plans.size) {
            throw new NoSuchElementException("no such configuration");
        }
        needQuarter(quarter);
        plans.judge(configuration);
        return plans.can[configuration * QUARTERS + quarter] ? plans.needs[configuration] : NONE;
    }

    public int busy(int v) throws IllegalArgumentException {
        needWithin(v, 0, 100000);
        int was = plans.busySum;
        plans.busySum = v;
        return was;
    }

    public int plan(int m, int what) throws IllegalArgumentException {
        needWithin(m, 0, QUARTERS - 1);
        needWithin(what, -2, QUARTERS - 1);
        if (!plans.solve(m)) {
            return NONE;
        }
        return what == -1 ? plans.bestPairs : what == -2 ? plans.bestChanges : plans.line[what];
    }

    public int hours(int what, int v) throws IllegalArgumentException {
        needWithin(what, 0, 1);
        needWithin(v, 1, what == 0 ? 24 : 8);
        return what == 0 ? watches.setWork(v) : watches.setRest(v);
    }

    public int ill(int pair, int quarter) throws IndexOutOfBoundsException, IllegalArgumentException {
        if (pair < 0 || pair >= Rota.PAIRS) {
            throw new IndexOutOfBoundsException("no such pair");
        }
        needWithin(quarter, 0, QUARTERS);
        int was = watches.illFrom[pair];
        watches.illFrom[pair] = quarter;
        return was;
    }

    public int rota(int n, int m, int quarter) throws IllegalArgumentException {
        needWithin(n, 1, Rota.PAIRS);
        needWithin(m, 0, QUARTERS - 1);
        needQuarter(quarter);
        if (!plans.solve(m)) {
            return NONE;
        }
        watches.run(n);
        return watches.watching[quarter];
    }

    public int lacks(int n, int m) throws IllegalArgumentException {
        needWithin(n, 1, Rota.PAIRS);
        needWithin(m, 0, QUARTERS - 1);
        if (!plans.solve(m)) {
            return NONE;
        }
        watches.run(n);
        return watches.wanting;
    }

    public int enough(int m) throws IllegalArgumentException {
        needWithin(m, 0, QUARTERS - 1);
        if (!plans.solve(m)) {
            return NONE;
        }
        for (int n = 1; n <= Rota.PAIRS; n++) {
            watches.run(n);
            if (watches.wanting == 0) {
                return n;
            }
        }
        return NONE;
    }

    public boolean storm(int cell, boolean is) throws IndexOutOfBoundsException {
        needCell(cell);
        return tempest.shut(cell, is);
    }

    public int mends(int quarter, int held, int refused, int what) throws IllegalArgumentException {
        needQuarter(quarter);
        needWithin(held, 0, 8);
        needWithin(refused, 0, 8);
        needWithin(what, -2, STREAMS - 1);
        tempest.findHits(quarter);
        if (what == -2) {
            return tempest.hitBits;
        }
        if (!tempest.solve(held, refused)) {
            return NONE;
        }
        return what == -1 ? tempest.bestMinutes : tempest.mendOf(what);
    }

    public int did(int piece, int quarter, int work, boolean back) throws IllegalArgumentException {
        needPiece(piece);
        needQuarter(quarter);
        needWithin(work, 0, 9999);
        listenTo(piece);
        ear.hear(quarter, NONE);
        return fits.add(ear.heard, work, back);
    }

    public int fit(int what) throws IllegalArgumentException {
        needWithin(what, 0, 5);
        if (!fits.solve()) {
            return NONE;
        }
        return what == 4 ? fits.off : what == 5 ? fits.offBack() : fits.weights[what];
    }

    public int lead(int piece, int quarter, int k, boolean part) throws IllegalArgumentException {
        needPiece(piece);
        needQuarter(quarter);
        listenTo(piece);
        int stream = ear.leadAt(quarter, k);
        return stream == NONE || !part ? stream : ear.parts[stream];
    }

    public int worth(int cell, int piece) throws IndexOutOfBoundsException, IllegalArgumentException {
        needCell(cell);
        needPiece(piece);
        int old = parting.pieceOf[cell];
        if (old == NONE || old == piece) {
            throw new IllegalArgumentException("the cell is shut, or of that piece");
        }
        mover.measure();
        int before = mover.priceNow();
        parting.put(cell, piece);
        mover.measure();
        int then = mover.priceNow();
        parting.put(cell, old);
        return before - then;
    }

    public int quiet(int cell) throws IndexOutOfBoundsException {
        needCell(cell);
        return air.countsAt(cell);
    }

    public int mark() {
        return parting.keepMark();
    }

    public int back() {
        return parting.goBack();
    }

    public int count(int what) {
        switch (what) {
            case 0: return air.count;
            case 1: return book.clauses;
            case 2: return parting.countPieces();
            case 3: return parting.countShut();
            case 4: return patch.size;
            case 5: return plans.size;
            case 6: return fits.size;
            case 7: return Long.bitCount(tempest.lo) + Long.bitCount(tempest.hi);
            case 8: return parting.markCount;
            case 9: return tape.size;
            default: return NONE;
        }
    }

    private void listenTo(int piece) {
        ear.listen(parting.lo[piece], parting.hi[piece], 1);
    }

    private void needStream(int stream) {
        if (stream < 0 || stream >= air.count) {
            throw new NoSuchElementException("no such stream");
        }
    }

    private void needCell(int cell) {
        if (cell < 0 || cell >= CELLS) {
            throw new IndexOutOfBoundsException("no such cell");
        }
    }

    private void needPiece(int piece) {
        needWithin(piece, 0, PIECES - 1);
    }

    private void needQuarter(int quarter) {
        needWithin(quarter, 0, QUARTERS - 1);
    }

    private void needWithin(int v, int least, int greatest) {
        if (v < least || v > greatest) {
            throw new IllegalArgumentException("a number out of its bounds");
        }
    }

    /** The tape, and the text that is read from it sign by sign. */
    private static final class Text {
        static final int END = -1;
        static final int NUMBER = -2;
        static final int WORD = -3;
        private static final int TAPE = 200;
        // Far above every N that is allowed, so that a long row of digits can't wrap into one.
        private static final int HUGE = 100000;

        final int[] bytes = new int[TAPE];
        int size;
        int end;
        int at;
        boolean words;
        int start;
        int kind;
        int value;
        int faultKind;
        int faultPlace = NONE;

        int takeAll(int a, int b, int c, int d, int e) {
            if (size + 20 > TAPE) {
                return NONE;
            }
            take(a);
            take(b);
            take(c);
            take(d);
            take(e);
            return size;
        }

        private void take(int number) {
            for (int shift = 24; shift >= 0 && size < TAPE; shift -= 8) {
                bytes[size] = number >>> shift & 255;
                size++;
            }
        }

        void open(int n, boolean inWords) {
            end = n;
            at = 0;
            words = inWords;
            size = 0;
            faultKind = 0;
            faultPlace = NONE;
            step();
        }

        void step() {
            while (at < end && bytes[at] == ' ') {
                at++;
            }
            start = at;
            value = 0;
            kind = at < end ? kindOf(bytes[at]) : END;
            if (kind == NUMBER) {
                while (at < end && kindOf(bytes[at]) == NUMBER) {
                    value = Math.min(HUGE, value * 10 + bytes[at] - '0');
                    at++;
                }
            } else if (kind == WORD) {
                while (at < end && kindOf(bytes[at]) == WORD) {
                    at++;
                }
            } else if (kind != END) {
                at++;
            }
        }

        /** A sign that is neither of a number nor of a word is its own kind. */
        private int kindOf(int sign) {
            if (sign >= '0' && sign <= '9') {
                return NUMBER;
            }
            return words && sign >= 'a' && sign <= 'z' ? WORD : sign;
        }

        boolean says(String word) {
            if (kind != WORD || at - start != word.length()) {
                return false;
            }
            for (int i = 0; i < word.length(); i++) {
                if (bytes[start + i] != word.charAt(i)) {
                    return false;
                }
            }
            return true;
        }

        boolean refuse(int fault) {
            return refuseAt(fault, start);
        }

        boolean refuseAt(int fault, int place) {
            faultKind = fault;
            faultPlace = place;
            return false;
        }
    }

    /** Streams: their ways as masks of cells and of steps, their counts, and which of them meet. */
    private static final class Streams {
        static final int COUPLES = 66;
        private static final int GOES = 7;
        private static final int ALONE = 6;
        static final int STEP_KINDS = 5;
        static final int CLIMBS = 4;

        int count;
        final int[] cells = new int[STREAMS * WAY_CELLS];
        final int[] sizes = new int[STREAMS];
        final long[] masks = new long[STREAMS * 2];
        final long[] goMasks = new long[STREAMS * GOES * 2];
        // Of each step the bit of its lesser cell: in x (low, high layer), in y (low, high), in z.
        final long[] steps = new long[STREAMS * STEP_KINDS];
        final int[] couples = new int[COUPLES];
        final long[] meets = new long[COUPLES * 2];
        int coupleCount;
        final int[] counts = new int[STREAMS * QUARTERS];
        final int[] early = new int[STREAMS];
        final int[] late = new int[STREAMS];
        final int[] mosts = new int[QUARTERS * STREAMS];
        final int[] totals = new int[STREAMS];
        final int[] mostTotals = new int[STREAMS];
        // The first quarter with the same mosts: all that is heard is the same there.
        final int[] twins = new int[QUARTERS];
        final int[] trial = new int[WAY_CELLS];
        int trialSize;

        /** The cell one step from another one (0 to 5: r, l, d, u, c, s), or NONE out of the air. */
        static int stepFrom(int cell, int go) {
            switch (go) {
                case 0: return (cell & 7) < 7 ? cell + 1 : NONE;
                case 1: return (cell & 7) > 0 ? cell - 1 : NONE;
                case 2: return (cell & 56) < 56 ? cell + 8 : NONE;
                case 3: return (cell & 56) > 0 ? cell - 8 : NONE;
                case 4: return cell < LAYER ? cell + LAYER : NONE;
                case 5: return cell >= LAYER ? cell - LAYER : NONE;
                default: return NONE;
            }
        }

        private static int goOf(int letter) {
            switch (letter) {
                case 'r': return 0;
                case 'l': return 1;
                case 'd': return 2;
                case 'u': return 3;
                case 'c': return 4;
                case 's': return 5;
                default: return NONE;
            }
        }

        private static int goBetween(int from, int to) {
            switch (to - from) {
                case 1: return 0;
                case -1: return 1;
                case 8: return 2;
                case -8: return 3;
                case 64: return 4;
                default: return 5;
            }
        }

        boolean readWay(Text text) {
            trialSize = 0;
            if (text.kind != Text.NUMBER) {
                return text.refuse(1);
            }
            if (text.value >= CELLS) {
                return text.refuse(2);
            }
            trial[0] = text.value;
            trialSize = 1;
            text.step();
            for (int i = 0; i < WAY_BYTES && text.kind != Text.END; i++) {
                if (!readMove(text)) {
                    return false;
                }
            }
            return true;
        }

        private boolean readMove(Text text) {
            int go = goOf(text.kind);
            int place = text.start;
            if (go == NONE) {
                return text.refuse(1);
            }
            text.step();
            int times = 1;
            if (go < 4 && text.kind == Text.NUMBER) {
                times = text.value;
                if (times < 1 || times > 7) {
                    return text.refuse(2);
                }
                text.step();
            }
            for (int i = 0; i < times; i++) {
                int fault = lengthen(go);
                if (fault != 0) {
                    return text.refuseAt(fault, place);
                }
            }
            return true;
        }

        private int lengthen(int go) {
            int next = trialSize > 0 ? stepFrom(trial[trialSize - 1], go) : NONE;
            if (next == NONE) {
                return 3;
            }
            if (trialSize >= WAY_CELLS) {
                return 4;
            }
            for (int i = 0; i < trialSize; i++) {
                if (trial[i] == next) {
                    return 4;
                }
            }
            trial[trialSize] = next;
            trialSize++;
            return 0;
        }

        int addTrial() {
            if (count >= STREAMS) {
                return NONE;
            }
            setWay(count, trial, 0, trialSize);
            count++;
            pairUp();
            return count - 1;
        }

        void setWay(int stream, int[] row, int from, int size) {
            System.arraycopy(row, from, cells, stream * WAY_CELLS, size);
            sizes[stream] = size;
            wipe(stream);
            int go = ALONE;
            for (int i = 0; i < size; i++) {
                int cell = row[from + i];
                if (i + 1 < size) {
                    go = goBetween(cell, row[from + i + 1]);
                    setStep(stream, Math.min(cell, row[from + i + 1]), go);
                }
                long bit = 1L << (cell & 63);
                masks[stream * 2 + cell / LAYER] |= bit;
                goMasks[(stream * GOES + go) * 2 + cell / LAYER] |= bit;
            }
        }

        private void wipe(int stream) {
            masks[stream * 2] = 0L;
            masks[stream * 2 + 1] = 0L;
            for (int i = 0; i < GOES * 2; i++) {
                goMasks[stream * GOES * 2 + i] = 0L;
            }
            for (int i = 0; i < STEP_KINDS; i++) {
                steps[stream * STEP_KINDS + i] = 0L;
            }
        }

        private void setStep(int stream, int lesser, int go) {
            int kind = go >= 4 ? CLIMBS : go / 2 * 2 + lesser / LAYER;
            steps[stream * STEP_KINDS + kind] |= 1L << (lesser & 63);
        }

        /** Finds for each two streams the cells where both come and do not go alike. */
        void pairUp() {
            coupleCount = 0;
            for (int a = 0; a < count; a++) {
                for (int b = a + 1; b < count; b++) {
                    long low = meetsOf(a, b, 0);
                    long high = meetsOf(a, b, 1);
                    if ((low | high) != 0L && coupleCount < COUPLES) {
                        couples[coupleCount] = a * STREAMS + b;
                        meets[coupleCount * 2] = low;
                        meets[coupleCount * 2 + 1] = high;
                        coupleCount++;
                    }
                }
            }
        }

        private long meetsOf(int a, int b, int layer) {
            long unlike = masks[a * 2 + layer] & masks[b * 2 + layer];
            for (int go = 0; go < GOES && unlike != 0L; go++) {
                unlike &= ~(goMasks[(a * GOES + go) * 2 + layer] & goMasks[(b * GOES + go) * 2 + layer]);
            }
            return unlike;
        }

        long allMeets(int layer) {
            long all = 0L;
            for (int c = 0; c < coupleCount; c++) {
                all |= meets[c * 2 + layer];
            }
            return all;
        }

        int cellAt(int stream, int k) {
            return k >= 0 && k < sizes[stream] ? cells[stream * WAY_CELLS + k] : NONE;
        }

        void setCounts(int stream, int from, int to, int v) {
            for (int q = from; q <= to; q++) {
                counts[stream * QUARTERS + q] = v;
            }
            retell(stream);
        }

        void setSpan(int stream, int earlyBy, int lateBy) {
            early[stream] = earlyBy;
            late[stream] = lateBy;
            retell(stream);
        }

        private void retell(int stream) {
            totals[stream] = 0;
            mostTotals[stream] = 0;
            for (int q = 0; q < QUARTERS; q++) {
                int greatest = mostIn(stream, q);
                mosts[q * STREAMS + stream] = greatest;
                totals[stream] += counts[stream * QUARTERS + q];
                mostTotals[stream] += greatest;
            }
            for (int q = 0; q < QUARTERS; q++) {
                twins[q] = twinOf(q);
            }
        }

        private int mostIn(int stream, int quarter) {
            int first = Math.max(0, quarter - late[stream]);
            int last = Math.min(QUARTERS - 1, quarter + early[stream]);
            int greatest = 0;
            for (int q = first; q <= last; q++) {
                greatest = Math.max(greatest, counts[stream * QUARTERS + q]);
            }
            return greatest;
        }

        private int twinOf(int quarter) {
            for (int q = 0; q < quarter; q++) {
                int s = 0;
                while (s < count && mosts[q * STREAMS + s] == mosts[quarter * STREAMS + s]) {
                    s++;
                }
                if (s == count) {
                    return q;
                }
            }
            return quarter;
        }

        int shorterThan(int least, long lo, long hi) {
            int bits = 0;
            for (int s = 0; s < count; s++) {
                if (shortestStretch(s, lo, hi) < least) {
                    bits |= 1 << s;
                }
            }
            return bits;
        }

        private int shortestStretch(int stream, long lo, long hi) {
            int shortest = WAY_CELLS;
            int run = 0;
            for (int i = 0; i < sizes[stream]; i++) {
                int cell = cells[stream * WAY_CELLS + i];
                if (((cell < LAYER ? lo : hi) >>> (cell & 63) & 1L) != 0L) {
                    run++;
                } else if (run > 0) {
                    shortest = Math.min(shortest, run);
                    run = 0;
                }
            }
            return run > 0 ? Math.min(shortest, run) : shortest;
        }

        int countsAt(int cell) {
            int sum = 0;
            for (int s = 0; s < count; s++) {
                if (comesTo(s, cell)) {
                    sum += totals[s];
                }
            }
            return sum;
        }

        boolean isVisited(int cell) {
            for (int s = 0; s < count; s++) {
                if (comesTo(s, cell)) {
                    return true;
                }
            }
            return false;
        }

        private boolean comesTo(int stream, int cell) {
            return (masks[stream * 2 + cell / LAYER] >>> (cell & 63) & 1L) != 0L;
        }

        /** The counts of every step of every way together. */
        int countsOfSteps() {
            int sum = 0;
            for (int s = 0; s < count; s++) {
                sum += totals[s] * (sizes[s] - 1);
            }
            return sum;
        }
    }

    /** What a set of cells hears. The set is looked at once, then heard in any quarter. */
    private static final class Ear {
        final Streams air;
        final Rules book;
        // The streams that come to the set, and of each its steps out of it, within it, and up or down in it.
        int visitors;
        final int[] visiting = new int[STREAMS];
        final int[] overs = new int[STREAMS];
        final int[] inner = new int[STREAMS];
        final int[] climbs = new int[STREAMS];
        // Each two streams that meet in the set without going alike, and in how many of its cells.
        int meetings;
        final int[] firsts = new int[Streams.COUPLES];
        final int[] seconds = new int[Streams.COUPLES];
        final int[] often = new int[Streams.COUPLES];
        // ways, cross, over, climb, cells, low, pieces
        final int[] heard = new int[Rules.NAMES];
        int peakQuarter;
        final int[] parts = new int[STREAMS];

        Ear(Streams air, Rules book) {
            this.air = air;
            this.book = book;
        }

        void listen(long lo, long hi, int pieces) {
            heard[4] = Long.bitCount(lo) + Long.bitCount(hi);
            heard[5] = Long.bitCount(lo);
            heard[6] = pieces;
            visitors = 0;
            for (int s = 0; s < air.count; s++) {
                if ((air.masks[s * 2] & lo | air.masks[s * 2 + 1] & hi) != 0L) {
                    visiting[visitors] = s;
                    followSteps(s, lo, hi);
                    visitors++;
                }
            }
            meetings = 0;
            for (int c = 0; c < air.coupleCount; c++) {
                int cells = Long.bitCount(air.meets[c * 2] & lo) + Long.bitCount(air.meets[c * 2 + 1] & hi);
                if (cells > 0) {
                    firsts[meetings] = air.couples[c] / STREAMS;
                    seconds[meetings] = air.couples[c] % STREAMS;
                    often[meetings] = cells;
                    meetings++;
                }
            }
        }

        private void followSteps(int stream, long lo, long hi) {
            int over = 0;
            int within = 0;
            int climb = 0;
            for (int kind = 0; kind < Streams.STEP_KINDS; kind++) {
                long steps = air.steps[stream * Streams.STEP_KINDS + kind];
                if (steps != 0L) {
                    long here = kind == 1 || kind == 3 ? hi : lo;
                    long there = kind == Streams.CLIMBS ? hi : kind < 2 ? here >>> 1 : here >>> 8;
                    int both = Long.bitCount(steps & here & there);
                    over += Long.bitCount(steps & (here ^ there));
                    within += both;
                    climb = kind == Streams.CLIMBS ? both : 0;
                }
            }
            overs[visitors] = over;
            inner[visitors] = within;
            climbs[visitors] = climb;
        }

        /** Fills the first four of heard, as if the stream `without` had most 0 (NONE: as it is). */
        void hear(int quarter, int without) {
            int row = quarter * STREAMS;
            int ways = 0;
            int cross = 0;
            int over = 0;
            int climb = 0;
            for (int i = 0; i < visitors; i++) {
                int most = visiting[i] == without ? 0 : air.mosts[row + visiting[i]];
                ways += most;
                over += most * overs[i];
                climb += most * climbs[i];
            }
            for (int i = 0; i < meetings; i++) {
                if (firsts[i] != without && seconds[i] != without) {
                    cross += often[i] * Math.min(air.mosts[row + firsts[i]], air.mosts[row + seconds[i]]);
                }
            }
            heard[0] = ways;
            heard[1] = cross;
            heard[2] = over;
            heard[3] = climb;
        }

        int loadAt(int quarter, int without) {
            hear(quarter, without);
            return book.work(book.loadClause, heard);
        }

        int findPeak() {
            int greatest = loadAt(0, NONE);
            peakQuarter = 0;
            for (int q = 1; q < QUARTERS; q++) {
                if (air.twins[q] == q) {
                    int load = loadAt(q, NONE);
                    if (load > greatest) {
                        greatest = load;
                        peakQuarter = q;
                    }
                }
            }
            return greatest;
        }

        /** The counts of all steps between two cells of the set. */
        int keptCounts() {
            int sum = 0;
            for (int i = 0; i < visitors; i++) {
                sum += air.totals[visiting[i]] * inner[i];
            }
            return sum;
        }

        int overInAll() {
            int sum = 0;
            for (int i = 0; i < visitors; i++) {
                sum += air.mostTotals[visiting[i]] * overs[i];
            }
            return sum;
        }

        /** The stream with the k-th greatest part, or NONE; the parts of all streams stay in `parts`. */
        int leadAt(int quarter, int k) {
            int load = loadAt(quarter, NONE);
            for (int s = 0; s < air.count; s++) {
                parts[s] = load - loadAt(quarter, s);
            }
            for (int s = 0; s < air.count; s++) {
                if (parts[s] != 0 && aheadOf(s) == k) {
                    return s;
                }
            }
            return NONE;
        }

        private int aheadOf(int stream) {
            int ahead = 0;
            for (int s = 0; s < air.count; s++) {
                if (parts[s] != 0 && (parts[s] > parts[stream] || parts[s] == parts[stream] && s < stream)) {
                    ahead++;
                }
            }
            return ahead;
        }
    }

    /** The rules: read into rows of codes that are worked on a stack, operands ahead of what joins them. */
    private static final class Rules {
        static final int NAMES = 7;
        private static final int MAX_CODES = 200;
        private static final int MAX_CLAUSES = 8;
        private static final int MAX_OPEN = 6;
        private static final int MAX_NUMBER = 999;
        // Codes from 0 on are numbers, -1 to -7 what is heard, and the others join these.
        private static final int CELLS_CODE = -5;
        private static final int LOW_CODE = -6;
        private static final int NOT = -8;
        private static final int ADD = -9;
        private static final int TAKE = -10;
        private static final int TIMES = -11;
        private static final int SHARE = -12;
        private static final int LEAST = -13;
        private static final int MOST = -14;
        private static final int BELOW = -15;
        private static final int ABOVE = -16;
        private static final int SAME = -17;
        private static final int AND = -18;
        private static final int OR = -19;
        private static final int NOTHING = -20;

        final Text text;
        int[] codes = new int[MAX_CODES];
        int[] ends = new int[MAX_CLAUSES];
        int clauses;
        int loadClause = NONE;
        int joinBits;
        // Whether the load depends on how many cells a set has, and not on what it hears alone.
        boolean countsCells;
        int[] draft = new int[MAX_CODES];
        int[] draftEnds = new int[MAX_CLAUSES];
        int draftSize;
        int draftLoad;
        int draftJoins;
        int open;
        final int[] stack = new int[MAX_CODES];

        Rules(Text text) {
            this.text = text;
        }

        /** Reads the text that is open; the rules stay as they were if it has a fault. */
        boolean read() {
            draftSize = 0;
            draftLoad = NONE;
            draftJoins = 0;
            open = 0;
            for (int i = 0; i <= MAX_CLAUSES; i++) {
                if (text.kind == Text.END) {
                    adopt(i);
                    return true;
                }
                if (!readClause(i)) {
                    return false;
                }
            }
            return false;
        }

        private void adopt(int many) {
            int[] oldCodes = codes;
            int[] oldEnds = ends;
            codes = draft;
            ends = draftEnds;
            draft = oldCodes;
            draftEnds = oldEnds;
            clauses = many;
            loadClause = draftLoad;
            joinBits = draftJoins;
            countsCells = false;
            if (loadClause != NONE) {
                for (int i = beginOf(loadClause); i < ends[loadClause]; i++) {
                    countsCells |= codes[i] == CELLS_CODE || codes[i] == LOW_CODE;
                }
            }
        }

        private int beginOf(int clause) {
            return clause > 0 ? ends[clause - 1] : 0;
        }

        private boolean readClause(int number) {
            boolean isLoad = text.says("load");
            if (!isLoad && !text.says("join")) {
                return text.refuse(1);
            }
            if (number >= MAX_CLAUSES) {
                return text.refuse(3);
            }
            text.step();
            if (isLoad ? !readSum() : !readEither()) {
                return false;
            }
            if (!pass(';')) {
                return false;
            }
            draftEnds[number] = draftSize;
            if (isLoad) {
                draftLoad = number;
            } else {
                draftJoins |= 1 << number;
            }
            return true;
        }

        private boolean readEither() {
            if (!readBoth()) {
                return false;
            }
            for (int i = 0; i < MAX_CODES && text.says("or"); i++) {
                text.step();
                if (!readBoth()) {
                    return false;
                }
                put(OR);
            }
            return true;
        }

        private boolean readBoth() {
            if (!readTest()) {
                return false;
            }
            for (int i = 0; i < MAX_CODES && text.says("and"); i++) {
                text.step();
                if (!readTest()) {
                    return false;
                }
                put(AND);
            }
            return true;
        }

        private boolean readTest() {
            if (text.says("not")) {
                if (!enter() || !readTest()) {
                    return false;
                }
                open--;
                put(NOT);
                return true;
            }
            if (text.kind == '[') {
                if (!enter() || !readEither() || !pass(']')) {
                    return false;
                }
                open--;
                return true;
            }
            if (!readSum()) {
                return false;
            }
            int code = text.kind == '<' ? BELOW : text.kind == '>' ? ABOVE : text.kind == '=' ? SAME : NOTHING;
            if (code == NOTHING) {
                return text.refuse(1);
            }
            text.step();
            if (!readSum()) {
                return false;
            }
            put(code);
            return true;
        }

        private boolean readSum() {
            if (!readProduct()) {
                return false;
            }
            for (int i = 0; i < MAX_CODES && (text.kind == '+' || text.kind == '-'); i++) {
                int code = text.kind == '+' ? ADD : TAKE;
                text.step();
                if (!readProduct()) {
                    return false;
                }
                put(code);
            }
            return true;
        }

        private boolean readProduct() {
            if (!readUnit()) {
                return false;
            }
            for (int i = 0; i < MAX_CODES && (text.kind == '*' || text.kind == '/'); i++) {
                int code = text.kind == '*' ? TIMES : SHARE;
                text.step();
                if (!readUnit()) {
                    return false;
                }
                put(code);
            }
            return true;
        }

        private boolean readUnit() {
            if (text.kind == Text.NUMBER) {
                if (text.value > MAX_NUMBER) {
                    return text.refuse(2);
                }
                put(text.value);
                text.step();
                return true;
            }
            if (text.kind == '(') {
                if (!enter() || !readSum() || !pass(')')) {
                    return false;
                }
                open--;
                return true;
            }
            if (text.says("least") || text.says("most")) {
                return readOfTwo(text.says("least") ? LEAST : MOST);
            }
            int code = codeOfName();
            if (code == NOTHING) {
                return text.refuse(1);
            }
            put(code);
            text.step();
            return true;
        }

        private boolean readOfTwo(int code) {
            text.step();
            if (text.kind != '(') {
                return text.refuse(1);
            }
            if (!enter() || !readSum() || !pass(',') || !readSum() || !pass(')')) {
                return false;
            }
            open--;
            put(code);
            return true;
        }

        private int codeOfName() {
            return text.says("ways") ? -1
                : text.says("cross") ? -2
                : text.says("over") ? -3
                : text.says("climb") ? -4
                : text.says("cells") ? CELLS_CODE
                : text.says("low") ? LOW_CODE
                : text.says("pieces") ? -7
                : NOTHING;
        }

        private boolean enter() {
            if (open >= MAX_OPEN) {
                return text.refuse(3);
            }
            open++;
            text.step();
            return true;
        }

        private boolean pass(int sign) {
            if (text.kind != sign) {
                return text.refuse(1);
            }
            text.step();
            return true;
        }

        private void put(int code) {
            if (draftSize < MAX_CODES) {
                draft[draftSize] = code;
                draftSize++;
            }
        }

        boolean joinsHold(int[] heard) {
            for (int i = 0; i < clauses; i++) {
                if ((joinBits >> i & 1) != 0 && work(i, heard) == 0) {
                    return false;
                }
            }
            return true;
        }

        /** The value of a clause (a test that holds is 1); NONE is the load of rules without one. */
        int work(int clause, int[] heard) {
            if (clause == NONE) {
                return heard[0] + 2 * heard[1] + heard[2];
            }
            int depth = 0;
            for (int i = beginOf(clause); i < ends[clause]; i++) {
                int code = codes[i];
                if (code > NOT) {
                    if (depth < MAX_CODES) {
                        stack[depth] = code >= 0 ? code : heard[-1 - code];
                        depth++;
                    }
                } else if (code == NOT) {
                    if (depth > 0) {
                        stack[depth - 1] = 1 - stack[depth - 1];
                    }
                } else if (depth > 1) {
                    depth--;
                    stack[depth - 1] = joined(code, stack[depth - 1], stack[depth]);
                }
            }
            return stack[0];
        }

        private static int joined(int code, int a, int b) {
            switch (code) {
                case ADD: return a + b;
                case TAKE: return a - b;
                case TIMES: return a * b;
                case SHARE: return b == 0 ? 0 : a / b;
                case LEAST: return a < b ? a : b;
                case MOST: return a > b ? a : b;
                case BELOW: return a < b ? 1 : 0;
                case ABOVE: return a > b ? 1 : 0;
                case SAME: return a == b ? 1 : 0;
                case AND: return a & b;
                default: return a | b;
            }
        }
    }

    /** Of which piece each cell is, as numbers and as masks of the low and the high layer; limits and marks. */
    private static final class Parting {
        private static final int MARKS = 4;
        // All columns but that of x 0, and all but that of x 7: a shift must not run from row to row.
        private static final long NOT_FIRST = 0xFEFEFEFEFEFEFEFEL;
        private static final long NOT_LAST = 0x7F7F7F7F7F7F7F7FL;

        final int[] pieceOf = new int[CELLS];
        final long[] lo = new long[PIECES];
        final long[] hi = new long[PIECES];
        final int[] limits = new int[PIECES];
        final int[] marks = new int[MARKS * CELLS];
        int markCount;
        int stretch;

        Parting() {
            lo[0] = -1L;
            hi[0] = -1L;
            Arrays.fill(limits, 40);
        }

        int put(int cell, int piece) {
            int was = pieceOf[cell];
            long bit = 1L << (cell & 63);
            long[] layer = cell < LAYER ? lo : hi;
            if (was >= 0) {
                layer[was] &= ~bit;
            }
            if (piece >= 0) {
                layer[piece] |= bit;
            }
            pieceOf[cell] = piece;
            return was;
        }

        /** Puts all cells of one layer between two corners: how many were not of the piece. */
        int putAll(int from, int to, int piece) {
            int changed = 0;
            for (int cell = from; cell <= to; cell++) {
                boolean inside = (cell & 7) >= (from & 7) && (cell & 7) <= (to & 7);
                if (inside && put(cell, piece) != piece) {
                    changed++;
                }
            }
            return changed;
        }

        boolean hasCells(int piece) {
            return (lo[piece] | hi[piece]) != 0L;
        }

        int countPieces() {
            int many = 0;
            for (int p = 0; p < PIECES; p++) {
                if (hasCells(p)) {
                    many++;
                }
            }
            return many;
        }

        int countShut() {
            int many = CELLS;
            for (int p = 0; p < PIECES; p++) {
                many -= Long.bitCount(lo[p]) + Long.bitCount(hi[p]);
            }
            return many;
        }

        /** All cells of a layer that are beside some of these in it, or beside some of the other layer's. */
        static long beside(long same, long other) {
            return same << 1 & NOT_FIRST | same >>> 1 & NOT_LAST | same << 8 | same >>> 8 | other;
        }

        /** Whether cells hang together: from the first of them all are reached. */
        static boolean hangs(long lo, long hi) {
            return reaches(lo, hi, lo, hi);
        }

        /** Whether all cells of a goal are reached from its first one over cells of a set that it is part of. */
        private static boolean reaches(long lo, long hi, long goalLo, long goalHi) {
            long reachedLo = Long.lowestOneBit(goalLo);
            long reachedHi = goalLo == 0L ? Long.lowestOneBit(goalHi) : 0L;
            for (int i = 0; i < CELLS; i++) {
                if ((goalLo & ~reachedLo | goalHi & ~reachedHi) == 0L) {
                    return true;
                }
                long moreLo = (reachedLo | beside(reachedLo, reachedHi)) & lo;
                long moreHi = (reachedHi | beside(reachedHi, moreLo)) & hi;
                if (moreLo == reachedLo && moreHi == reachedHi) {
                    return false;
                }
                reachedLo = moreLo;
                reachedHi = moreHi;
            }
            return false;
        }

        int neckAt(int piece, int k) {
            if (k < 0 || !hangs(lo[piece], hi[piece])) {
                return NONE;
            }
            int seen = 0;
            for (int cell = 0; cell < CELLS; cell++) {
                if (pieceOf[cell] == piece && !hangsWithout(piece, cell)) {
                    if (seen == k) {
                        return cell;
                    }
                    seen++;
                }
            }
            return NONE;
        }

        /** Whether a piece that is whole stays so without a cell: the cells beside that one must reach each other. */
        boolean hangsWithout(int piece, int cell) {
            long bitLo = cell < LAYER ? 1L << cell : 0L;
            long bitHi = cell < LAYER ? 0L : 1L << (cell & 63);
            long restLo = lo[piece] & ~bitLo;
            long restHi = hi[piece] & ~bitHi;
            return reaches(restLo, restHi, beside(bitLo, bitHi) & restLo, beside(bitHi, bitLo) & restHi);
        }

        int countAtEdge(int piece, long meetsLo, long meetsHi) {
            long edgeLo = lo[piece] & beside(~lo[piece], ~hi[piece]);
            long edgeHi = hi[piece] & beside(~hi[piece], ~lo[piece]);
            return Long.bitCount(edgeLo & meetsLo) + Long.bitCount(edgeHi & meetsHi);
        }

        /** The pieces of the cells beside one, as bits; shut cells give none. */
        int piecesBeside(int cell) {
            int bits = 0;
            for (int go = 0; go < 6; go++) {
                int next = Streams.stepFrom(cell, go);
                if (next != NONE && pieceOf[next] >= 0) {
                    bits |= 1 << pieceOf[next];
                }
            }
            return bits;
        }

        int keepMark() {
            if (markCount >= MARKS) {
                return NONE;
            }
            System.arraycopy(pieceOf, 0, marks, markCount * CELLS, CELLS);
            markCount++;
            return markCount;
        }

        int goBack() {
            if (markCount <= 0) {
                return NONE;
            }
            markCount--;
            for (int cell = 0; cell < CELLS; cell++) {
                put(cell, marks[markCount * CELLS + cell]);
            }
            return markCount;
        }
    }

    /** The cost of the parting, and the move of a cell that makes it least. */
    private static final class Mover {
        final Streams air;
        final Parting parting;
        final Ear ear;
        final boolean[] present = new boolean[PIECES];
        final int[] peaks = new int[PIECES];
        final int[] kept = new int[PIECES];
        final boolean[] wholes = new boolean[PIECES];
        int bestCell;
        int bestPiece;
        int bestPrice;

        Mover(Streams air, Parting parting, Ear ear) {
            this.air = air;
            this.parting = parting;
            this.ear = ear;
        }

        /** Whether a piece is whole and never full. */
        boolean stands(int piece) {
            if (!isWhole(piece)) {
                return false;
            }
            ear.listen(parting.lo[piece], parting.hi[piece], 1);
            return ear.findPeak() <= parting.limits[piece];
        }

        private boolean isWhole(int piece) {
            return Parting.hangs(parting.lo[piece], parting.hi[piece]);
        }

        void measure() {
            for (int p = 0; p < PIECES; p++) {
                present[p] = parting.hasCells(p);
                if (present[p]) {
                    weigh(p);
                }
            }
        }

        /** Takes a piece's peak and kept counts as it is now: whether it is never full. */
        private boolean weigh(int piece) {
            ear.listen(parting.lo[piece], parting.hi[piece], 1);
            peaks[piece] = ear.findPeak();
            kept[piece] = ear.keptCounts();
            return peaks[piece] <= parting.limits[piece];
        }

        int priceNow() {
            int price = air.countsOfSteps();
            int greatest = Integer.MIN_VALUE;
            int least = Integer.MAX_VALUE;
            boolean any = false;
            for (int p = 0; p < PIECES; p++) {
                if (present[p]) {
                    any = true;
                    price -= kept[p];
                    greatest = Math.max(greatest, peaks[p]);
                    least = Math.min(least, peaks[p]);
                }
            }
            return any ? price + 10 * (greatest - least) : price;
        }

        /** Finds the best move; false if there is none. */
        boolean seek() {
            measure();
            for (int p = 0; p < PIECES; p++) {
                wholes[p] = isWhole(p);
            }
            bestCell = NONE;
            bestPrice = priceNow();
            for (int cell = 0; cell < CELLS; cell++) {
                int old = parting.pieceOf[cell];
                if (old != NONE && mayMatter(cell)) {
                    int others = parting.piecesBeside(cell) & ~(1 << old);
                    if (others != 0) {
                        tryCell(cell, old, others);
                    }
                }
            }
            return bestCell != NONE;
        }

        /** A cell without streams costs the same everywhere, unless the load counts cells. */
        private boolean mayMatter(int cell) {
            return ear.book.countsCells || air.isVisited(cell);
        }

        private void tryCell(int cell, int old, int others) {
            // To leave a piece that is not whole may make it so; one that is whole stays so with a cell beside it.
            boolean apart = wholes[old] && !parting.hangsWithout(old, cell);
            int oldPeak = peaks[old];
            int oldKept = kept[old];
            parting.put(cell, NONE);
            if (!apart && parting.hasCells(old) && (wholes[old] || isWhole(old)) && weigh(old)) {
                for (int p = 0; p < PIECES; p++) {
                    if ((others >> p & 1) != 0) {
                        int thatPeak = peaks[p];
                        int thatKept = kept[p];
                        parting.put(cell, p);
                        if ((wholes[p] || isWhole(p)) && weigh(p)) {
                            compare(cell, p, priceNow());
                        }
                        peaks[p] = thatPeak;
                        kept[p] = thatKept;
                    }
                }
            }
            parting.put(cell, old);
            peaks[old] = oldPeak;
            kept[old] = oldKept;
        }

        private void compare(int cell, int piece, int price) {
            if (price < bestPrice) {
                bestPrice = price;
                bestCell = cell;
                bestPiece = piece;
            }
        }
    }

    /** The region and its best parting: every subset of it is heard once, then all partings are gone through. */
    private static final class Region {
        private static final int MAX_CELLS = 8;
        private static final int MAX_HEAPS = 3;
        private static final int SUBSETS = 256;

        final Streams air;
        final Ear ear;
        final int[] cells = new int[MAX_CELLS];
        int size;
        final boolean[] hanging = new boolean[SUBSETS];
        final int[] peaks = new int[SUBSETS];
        final int[] overs = new int[SUBSETS];
        final int[] heaps = new int[MAX_CELLS];
        final int[] subsets = new int[MAX_HEAPS];
        final int[] bestHeaps = new int[MAX_CELLS];
        int bestPeak;
        int bestOver;
        boolean found;

        Region(Streams air, Ear ear) {
            this.air = air;
            this.ear = ear;
        }

        int add(int cell) {
            if (size >= MAX_CELLS) {
                return -1;
            }
            for (int i = 0; i < size; i++) {
                if (cells[i] == cell) {
                    return -2;
                }
            }
            cells[size] = cell;
            size++;
            return size;
        }

        boolean solve(int most) {
            found = false;
            if (size == 0) {
                return false;
            }
            for (int subset = 1; subset < 1 << size; subset++) {
                hearSubset(subset);
            }
            Arrays.fill(subsets, 0);
            place(0, 0, most);
            return found;
        }

        private void hearSubset(int subset) {
            long lo = 0L;
            long hi = 0L;
            for (int i = 0; i < size; i++) {
                if ((subset >> i & 1) != 0) {
                    long bit = 1L << (cells[i] & 63);
                    if (cells[i] < LAYER) {
                        lo |= bit;
                    } else {
                        hi |= bit;
                    }
                }
            }
            hanging[subset] = Parting.hangs(lo, hi);
            if (hanging[subset]) {
                ear.listen(lo, hi, 1);
                peaks[subset] = ear.findPeak();
                overs[subset] = ear.overInAll();
            }
        }

        /** Puts the k-th cell and all behind it; the limit of eight cells keeps the depth low. */
        private void place(int k, int used, int most) {
            if (k >= size) {
                compare(used);
                return;
            }
            for (int heap = 0; heap <= used && heap < most; heap++) {
                heaps[k] = heap;
                subsets[heap] |= 1 << k;
                place(k + 1, heap == used ? used + 1 : used, most);
                subsets[heap] &= ~(1 << k);
            }
        }

        private void compare(int used) {
            int peak = Integer.MIN_VALUE;
            int over = 0;
            for (int heap = 0; heap < used; heap++) {
                int subset = subsets[heap];
                if (!hanging[subset]) {
                    return;
                }
                peak = Math.max(peak, peaks[subset]);
                over += overs[subset];
            }
            if (!found || peak < bestPeak || peak == bestPeak && over < bestOver) {
                found = true;
                bestPeak = peak;
                bestOver = over;
                System.arraycopy(heaps, 0, bestHeaps, 0, size);
            }
        }
    }

    /** Configurations, and the best plan of them by quarters. */
    private static final class Plans {
        private static final int MAX_SIZE = 6;
        // Far above the pairs of any plan (24 quarters with 8 pairs each).
        private static final int TOO_MANY = 1000000;

        final Streams air;
        final Rules book;
        final Parting parting;
        final Ear ear;
        final int[] groups = new int[MAX_SIZE];
        int size;
        int busySum = 1000;
        final int[] needs = new int[MAX_SIZE];
        final boolean[] can = new boolean[MAX_SIZE * QUARTERS];
        final int[] loads = new int[QUARTERS];
        // The fewest pairs from a quarter on, with a configuration there, and exactly so many changes behind it.
        final int[] fewest = new int[QUARTERS * MAX_SIZE * QUARTERS];
        final int[] line = new int[QUARTERS];
        int bestPairs;
        int bestChanges;

        Plans(Streams air, Rules book, Parting parting, Ear ear) {
            this.air = air;
            this.book = book;
            this.parting = parting;
            this.ear = ear;
        }

        int add(int digits) {
            if (size >= MAX_SIZE) {
                return NONE;
            }
            groups[size] = digits;
            size++;
            return size - 1;
        }

        int needAt(int quarter) {
            return needs[line[quarter]];
        }

        /** Finds what a configuration needs, and in which quarters it can be. */
        void judge(int c) {
            needs[c] = 0;
            for (int q = 0; q < QUARTERS; q++) {
                can[c * QUARTERS + q] = true;
            }
            for (int group = 0; group < PIECES; group++) {
                long lo = 0L;
                long hi = 0L;
                int many = 0;
                int limit = 0;
                for (int p = PIECES - 1; p >= 0; p--) {
                    if ((groups[c] >> 3 * p & 7) == group && parting.hasCells(p)) {
                        lo |= parting.lo[p];
                        hi |= parting.hi[p];
                        many++;
                        limit = parting.limits[p];
                    }
                }
                if (many > 0) {
                    needs[c]++;
                    ear.listen(lo, hi, many);
                    judgeGroup(c, limit, many > 1);
                }
            }
        }

        private void judgeGroup(int c, int limit, boolean several) {
            for (int q = 0; q < QUARTERS; q++) {
                int at = c * QUARTERS + q;
                if (air.twins[q] != q) {
                    can[at] = can[c * QUARTERS + air.twins[q]];
                } else if (can[at]) {
                    can[at] = ear.loadAt(q, NONE) <= limit && (!several || book.joinsHold(ear.heard));
                }
            }
        }

        private void addLoads() {
            Arrays.fill(loads, 0);
            for (int p = 0; p < PIECES; p++) {
                if (parting.hasCells(p)) {
                    ear.listen(parting.lo[p], parting.hi[p], 1);
                    for (int q = 0; q < QUARTERS; q++) {
                        int twin = air.twins[q];
                        loads[q] = twin == q ? loads[q] + ear.loadAt(q, NONE) : loads[twin];
                    }
                }
            }
        }

        /** Finds the best plan with so many changes at most; false if there is none. */
        boolean solve(int most) {
            for (int c = 0; c < size; c++) {
                judge(c);
            }
            addLoads();
            for (int q = QUARTERS - 1; q >= 0; q--) {
                for (int c = 0; c < size; c++) {
                    for (int k = 0; k <= most; k++) {
                        int behind = can[c * QUARTERS + q] ? fewestBehind(q, c, k) : TOO_MANY;
                        fewest[placeOf(q, c, k)] = behind >= TOO_MANY ? TOO_MANY : needs[c] + behind;
                    }
                }
            }
            return choose(most);
        }

        private static int placeOf(int q, int c, int k) {
            return (q * MAX_SIZE + c) * QUARTERS + k;
        }

        private int fewestBehind(int q, int c, int k) {
            if (q == QUARTERS - 1) {
                return k == 0 ? 0 : TOO_MANY;
            }
            int least = fewest[placeOf(q + 1, c, k)];
            if (k > 0 && loads[q + 1] <= busySum) {
                for (int other = 0; other < size; other++) {
                    if (other != c) {
                        least = Math.min(least, fewest[placeOf(q + 1, other, k - 1)]);
                    }
                }
            }
            return least;
        }

        private boolean choose(int most) {
            bestPairs = TOO_MANY;
            bestChanges = 0;
            line[0] = 0;
            for (int k = 0; k <= most; k++) {
                for (int c = 0; c < size; c++) {
                    int pairs = fewest[placeOf(0, c, k)];
                    if (pairs < bestPairs) {
                        bestPairs = pairs;
                        bestChanges = k;
                        line[0] = c;
                    }
                }
            }
            if (bestPairs >= TOO_MANY) {
                return false;
            }
            int k = bestChanges;
            int left = bestPairs;
            for (int q = 1; q < QUARTERS; q++) {
                left -= needs[line[q - 1]];
                line[q] = nextOf(q, k, left);
                if (line[q] != line[q - 1]) {
                    k--;
                }
            }
            return true;
        }

        private int nextOf(int q, int k, int left) {
            int ahead = line[q - 1];
            for (int c = 0; c < size; c++) {
                if (c == ahead) {
                    if (fewest[placeOf(q, c, k)] == left) {
                        return c;
                    }
                } else if (k > 0 && loads[q] <= busySum && fewest[placeOf(q, c, k - 1)] == left) {
                    return c;
                }
            }
            return ahead;
        }
    }

    /** The rota of pairs for the plan that was found last. */
    private static final class Rota {
        static final int PAIRS = 8;

        final Plans plans;
        int work = 8;
        int rest = 2;
        final int[] illFrom = new int[PAIRS];
        final int[] onEnd = new int[PAIRS];
        final int[] freeFrom = new int[PAIRS];
        final int[] watched = new int[PAIRS];
        final int[] watching = new int[QUARTERS];
        int wanting;

        Rota(Plans plans) {
            this.plans = plans;
            Arrays.fill(illFrom, QUARTERS);
        }

        int setWork(int v) {
            int was = work;
            work = v;
            return was;
        }

        int setRest(int v) {
            int was = rest;
            rest = v;
            return was;
        }

        void run(int n) {
            Arrays.fill(onEnd, 0);
            Arrays.fill(freeFrom, 0);
            Arrays.fill(watched, 0);
            wanting = 0;
            for (int q = 0; q < QUARTERS; q++) {
                int need = plans.needAt(q);
                int now = fewestOf(mayGoOn(n, q), need);
                now |= fewestOf(mayBegin(n, q), need - Integer.bitCount(now));
                wanting += need - Integer.bitCount(now);
                watching[q] = now;
                settle(n, q, now);
            }
        }

        private int mayGoOn(int n, int q) {
            int bits = 0;
            for (int p = 0; p < n; p++) {
                if (onEnd[p] > 0 && onEnd[p] < work && q < illFrom[p]) {
                    bits |= 1 << p;
                }
            }
            return bits;
        }

        private int mayBegin(int n, int q) {
            int bits = 0;
            for (int p = 0; p < n; p++) {
                if (onEnd[p] == 0 && q >= freeFrom[p] && q < illFrom[p]) {
                    bits |= 1 << p;
                }
            }
            return bits;
        }

        /** So many of a set of pairs at most: those that watched least, then by number. */
        private int fewestOf(int set, int many) {
            int chosen = 0;
            for (int i = 0; i < many; i++) {
                int next = NONE;
                for (int p = 0; p < PAIRS; p++) {
                    boolean free = ((set & ~chosen) >> p & 1) != 0;
                    if (free && (next == NONE || watched[p] < watched[next])) {
                        next = p;
                    }
                }
                if (next == NONE) {
                    return chosen;
                }
                chosen |= 1 << next;
            }
            return chosen;
        }

        private void settle(int n, int q, int now) {
            for (int p = 0; p < n; p++) {
                if ((now >> p & 1) != 0) {
                    onEnd[p]++;
                    watched[p]++;
                } else if (onEnd[p] > 0) {
                    onEnd[p] = 0;
                    freeFrom[p] = q + rest;
                }
            }
        }
    }

    /** The storm, whom it hits, and how that is mended with the fewest minutes. */
    private static final class Storm {
        private static final int MAX_HITS = 8;
        private static final int SUBSETS = 256;
        private static final int UNKNOWN = 0;
        private static final int FITS = 1;
        private static final int FULL = 2;
        // The steps by which the cells beside one rise: s, u, l, r, d, c.
        private static final int[] RISING = {5, 3, 1, 0, 2, 4};

        final Streams air;
        final Streams mended = new Streams();
        final Parting parting;
        final Ear[] ears = new Ear[PIECES];
        long lo;
        long hi;
        int quarter;
        int hitBits;
        final int[] hits = new int[STREAMS];
        int hitCount;
        // Minutes of ROUND for each hit one, NONE without such a way.
        final int[] rounds = new int[MAX_HITS];
        final int[] mends = new int[MAX_HITS];
        final int[] bestMends = new int[MAX_HITS];
        int bestMinutes;
        // By the subset of the hit ones that go round: whether no piece is full then.
        final int[] known = new int[SUBSETS];
        final int[] far = new int[CELLS];
        final int[] queue = new int[CELLS];
        final int[] path = new int[WAY_CELLS];

        Storm(Streams air, Rules book, Parting parting) {
            this.air = air;
            this.parting = parting;
            for (int p = 0; p < PIECES; p++) {
                ears[p] = new Ear(mended, book);
            }
        }

        boolean shut(int cell, boolean is) {
            boolean was = isShut(cell);
            long bit = was == is ? 0L : 1L << (cell & 63);
            if (cell < LAYER) {
                lo ^= bit;
            } else {
                hi ^= bit;
            }
            return was;
        }

        private boolean isShut(int cell) {
            return ((cell < LAYER ? lo : hi) >>> (cell & 63) & 1L) != 0L;
        }

        void findHits(int inQuarter) {
            quarter = inQuarter;
            hitBits = 0;
            hitCount = 0;
            for (int s = 0; s < air.count; s++) {
                boolean struck = (air.masks[s * 2] & lo | air.masks[s * 2 + 1] & hi) != 0L;
                if (struck && air.mosts[quarter * STREAMS + s] > 0) {
                    hitBits |= 1 << s;
                    hits[hitCount] = s;
                    hitCount++;
                }
            }
        }

        int mendOf(int stream) {
            for (int i = 0; i < hitCount && i < MAX_HITS; i++) {
                if (hits[i] == stream) {
                    return bestMends[i];
                }
            }
            return 0;
        }

        /** Finds the best mends of those that are hit; false if there are none. */
        boolean solve(int held, int refused) {
            if (hitCount > MAX_HITS) {
                return false;
            }
            layWays();
            Arrays.fill(known, UNKNOWN);
            bestMinutes = Integer.MAX_VALUE;
            tryMends(0, 0, held, refused, 0);
            return bestMinutes != Integer.MAX_VALUE;
        }

        /** Lays the ways as they are with every hit stream round the storm; what is held has most 0 later. */
        private void layWays() {
            mended.count = air.count;
            int next = 0;
            for (int s = 0; s < air.count; s++) {
                int cells = air.sizes[s];
                mended.setWay(s, air.cells, s * WAY_CELLS, cells);
                mended.mosts[s] = air.mosts[quarter * STREAMS + s];
                if ((hitBits >> s & 1) != 0) {
                    int found = findRound(air.cellAt(s, 0), air.cellAt(s, cells - 1));
                    rounds[next] = found == 0 ? NONE : 2 * Math.max(0, found - cells) * mended.mosts[s];
                    next++;
                    if (found > 0) {
                        mended.setWay(s, path, 0, found);
                    }
                }
            }
            mended.pairUp();
            for (int p = 0; p < PIECES; p++) {
                ears[p].listen(parting.lo[p], parting.hi[p], 1);
            }
        }

        /** Lays the first of the shortest ways into path: how many cells it has, 0 without one. */
        private int findRound(int first, int last) {
            if (first == NONE || last == NONE || isShut(first) || isShut(last)) {
                return 0;
            }
            spreadFrom(last);
            int size = far[first] + 1;
            if (size < 1 || size > WAY_CELLS) {
                return 0;
            }
            path[0] = first;
            for (int i = 1; i < size; i++) {
                path[i] = nearerThan(path[i - 1]);
            }
            return size;
        }

        private void spreadFrom(int cell) {
            Arrays.fill(far, NONE);
            far[cell] = 0;
            queue[0] = cell;
            int tail = 1;
            for (int head = 0; head < tail && head < CELLS; head++) {
                for (int go = 0; go < 6; go++) {
                    int next = Streams.stepFrom(queue[head], go);
                    if (next != NONE && far[next] == NONE && !isShut(next) && tail < CELLS) {
                        far[next] = far[queue[head]] + 1;
                        queue[tail] = next;
                        tail++;
                    }
                }
            }
        }

        private int nearerThan(int cell) {
            for (int go : RISING) {
                int next = Streams.stepFrom(cell, go);
                if (next != NONE && far[next] == far[cell] - 1) {
                    return next;
                }
            }
            return cell;
        }

        /** Goes through the mends of the i-th hit one and all behind it; at most eight are hit. */
        private void tryMends(int i, int minutes, int held, int refused, int round) {
            if (minutes >= bestMinutes) {
                return;
            }
            if (i >= hitCount) {
                if (fits(round)) {
                    bestMinutes = minutes;
                    System.arraycopy(mends, 0, bestMends, 0, hitCount);
                }
                return;
            }
            int most = air.mosts[quarter * STREAMS + hits[i]];
            if (rounds[i] != NONE) {
                mends[i] = 1;
                tryMends(i + 1, minutes + rounds[i], held, refused, round | 1 << i);
            }
            if (held > 0) {
                mends[i] = 2;
                tryMends(i + 1, minutes + 15 * most, held - 1, refused, round);
            }
            if (refused > 0) {
                mends[i] = 3;
                tryMends(i + 1, minutes + 60 * most, held, refused - 1, round);
            }
        }

        private boolean fits(int round) {
            if (known[round] == UNKNOWN) {
                known[round] = anyFull(round) ? FULL : FITS;
            }
            return known[round] == FITS;
        }

        private boolean anyFull(int round) {
            for (int i = 0; i < hitCount; i++) {
                boolean goes = (round >> i & 1) != 0;
                mended.mosts[hits[i]] = goes ? air.mosts[quarter * STREAMS + hits[i]] : 0;
            }
            for (int p = 0; p < PIECES; p++) {
                if (parting.hasCells(p) && ears[p].loadAt(0, NONE) > parting.limits[p]) {
                    return true;
                }
            }
            return false;
        }
    }

    /** Rows of what pairs did, and the weights that fit them best. */
    private static final class Fits {
        private static final int ROWS = 40;
        private static final int WEIGHTS = 4;
        private static final int GREATEST = 4;

        final int[] heard = new int[ROWS * WEIGHTS];
        final int[] works = new int[ROWS];
        final boolean[] backs = new boolean[ROWS];
        int size;
        // Rows never change, so weights once found stand until there is another row.
        int fitted;
        final int[] weights = new int[WEIGHTS];
        final int[] trial = new int[WEIGHTS];
        int off;

        int add(int[] sounds, int work, boolean back) {
            if (size >= ROWS) {
                return NONE;
            }
            System.arraycopy(sounds, 0, heard, size * WEIGHTS, WEIGHTS);
            works[size] = work;
            backs[size] = back;
            size++;
            return size - 1;
        }

        /** Finds the weights; false if all rows are kept back. */
        boolean solve() {
            if (!anyRow()) {
                return false;
            }
            if (fitted == size) {
                return true;
            }
            fitted = size;
            Arrays.fill(trial, 0);
            off = Integer.MAX_VALUE;
            boolean more = true;
            for (int i = 0; i < 625 && more; i++) {
                int sum = offOf(trial, false);
                if (sum < off) {
                    off = sum;
                    System.arraycopy(trial, 0, weights, 0, WEIGHTS);
                }
                more = nextTrial();
            }
            return true;
        }

        int offBack() {
            return offOf(weights, true);
        }

        private boolean anyRow() {
            for (int row = 0; row < size; row++) {
                if (!backs[row]) {
                    return true;
                }
            }
            return false;
        }

        private boolean nextTrial() {
            for (int w = WEIGHTS - 1; w >= 0; w--) {
                if (trial[w] < GREATEST) {
                    trial[w]++;
                    return true;
                }
                trial[w] = 0;
            }
            return false;
        }

        private int offOf(int[] by, boolean back) {
            int sum = 0;
            for (int row = 0; row < size; row++) {
                if (backs[row] == back) {
                    int far = works[row];
                    for (int w = 0; w < WEIGHTS; w++) {
                        far -= by[w] * heard[row * WEIGHTS + w];
                    }
                    sum += Math.abs(far);
                }
            }
            return sum;
        }
    }
}
