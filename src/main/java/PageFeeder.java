/**
 * A document feeder: sheets of a stack are picked, double picks and skewed sheets are sensed, blank
 * sides are dropped, code sheets separate jobs. The promises are in ../shared/DOC.md.
 *
 * <p>Everything that changes can change stands in a {@link State} of fixed size, so that undo and
 * snapshots are copies into rows that the constructor has made: no call makes an object.
 */
public final class PageFeeder {
    /** What was asked for does not exist. */
    public static final int NONE = -1;

    private static final int MAX_BYTES = 700;
    private static final int BYTES_APPENDED = 20;
    private static final int MAX_SHEETS = 40;
    private static final int MAX_PAGES = 2 * MAX_SHEETS;
    private static final int MAX_PICKS = 40;
    private static final int MAX_CODE = 999;
    private static final int JOBS_BY_HAND = 99;
    // Code sheets may begin jobs beyond those that endJob refuses to exceed.
    private static final int MAX_JOBS = JOBS_BY_HAND + MAX_SHEETS;
    private static final int MAX_UNDO = 10;
    private static final int SLOTS = 2;
    private static final int GOOD_PICKS = 6;
    /** Above every percent and every count that can occur. */
    private static final int FAR_ABOVE = 1000000;

    private static final int LIMITS = 4;
    private static final int PERCENT = 0;
    private static final int TOLERANCE = 1;
    private static final int EDGE = 2;
    private static final int BLANK = 3;
    private static final int[] LEAST = {101, 0, 0, 0};
    private static final int[] GREATEST = {300, 200, 99, 1000};
    private static final int[] USUAL = {150, 20, 30, 5};

    private static final int IN_STACK = 0;
    private static final int IN_PATH = 1;
    private static final int OUT = 2;
    private static final int DROPPED = 3;
    private static final int CODE_THROUGH = 4;
    private static final int HIDDEN = 5;
    private static final int REMOVED = 6;

    private static final int NO_STOP = 0;
    private static final int TOO_THICK = 1;
    private static final int WRONG_LENGTH = 2;
    private static final int SKEWED = 3;

    // The accounts 1 to 3 are the stops, each under the number of its reason.
    private static final int ACCOUNTS = 9;
    private static final int PICKS = 0;
    private static final int GOOD = 4;
    private static final int HALVES_REPLACED = 5;
    private static final int HALVES_REMOVED = 6;
    private static final int PUT_BACK = 7;
    private static final int ACCEPTED = 8;

    private final Parser parser = new Parser();
    private Setup setup = new Setup();
    private final State state = new State();
    private final State[] history = new State[MAX_UNDO];
    /** States kept less those undone; modulo the length of the ring the place of the next one. */
    private int remembered;
    private int undoable;
    private final State[] snapshots = new State[SLOTS];
    private final boolean[] saved = new boolean[SLOTS];
    private final Pick pick = new Pick();
    private final Forecast forecast = new Forecast();

    public PageFeeder() {
        for (int k = 0; k < MAX_UNDO; k++) {
            history[k] = new State();
        }
        for (int k = 0; k < SLOTS; k++) {
            snapshots[k] = new State();
        }
        setup.clear();
        setup.usualLength = 50;
        setup.usualThick = 30;
        beginAnew();
    }

    // ---- feeder

    public int append(int a, int b, int c, int d, int e) {
        if (parser.filled + BYTES_APPENDED > MAX_BYTES) {
            return NONE;
        }
        parser.addFour(a);
        parser.addFour(b);
        parser.addFour(c);
        parser.addFour(d);
        parser.addFour(e);
        return parser.filled;
    }

    public int parse(int length) throws IllegalArgumentException {
        if (length < 0 || length > parser.filled) {
            throw new IllegalArgumentException("length out of range");
        }
        int error = parser.read(length);
        if (error != NONE) {
            return -2 - error;
        }
        setup = parser.exchange(setup);
        beginAnew();
        return setup.sheets;
    }

    public int size(int what) throws IllegalArgumentException {
        switch (what) {
            case 0: return setup.sheets;
            case 1: return stackSize();
            case 2: return state.inPath;
            case 3: return state.reason;
            case 4: return state.pages;
            case 5: return state.jobs;
            case 6: return state.duplex ? 1 : 0;
            case 7: return setup.usualLength;
            case 8: return setup.usualThick;
            case 9: return state.goods.usual(setup.usualThick);
            case 10: return halves();
            case 11: return undoable;
            default: throw new IllegalArgumentException("what out of range");
        }
    }

    public int limit(int what) throws IllegalArgumentException {
        if (what < 0 || what >= LIMITS) {
            throw new IllegalArgumentException("what out of range");
        }
        return state.limits[what];
    }

    public int sheet(int sheet, int what) throws IndexOutOfBoundsException, IllegalArgumentException {
        if (!isSheet(sheet)) {
            throw new IndexOutOfBoundsException("no such sheet");
        }
        switch (what) {
            case 0: return setup.length[sheet];
            case 1: return setup.thick[sheet];
            case 2: return state.skew[sheet];
            case 3: return setup.front[sheet];
            case 4: return setup.back[sheet];
            case 5: return setup.code[sheet];
            case 6: return state.offset[sheet];
            case 7: return state.where[sheet];
            default: throw new IllegalArgumentException("what out of range");
        }
    }

    public int stack(int k) {
        return k >= 0 && k < stackSize() ? state.top + k : NONE;
    }

    public int path(int k) {
        return k >= 0 && k < state.inPath ? firstInPath() + k : NONE;
    }

    public int page(int page, int what) throws IndexOutOfBoundsException, IllegalArgumentException {
        if (page < 0 || page >= state.pages) {
            throw new IndexOutOfBoundsException("no such page");
        }
        switch (what) {
            case 0: return state.pageSheet[page];
            case 1: return state.pageSide[page];
            case 2: return state.pageJob[page];
            default: throw new IllegalArgumentException("what out of range");
        }
    }

    public int job(int job, int what) throws IndexOutOfBoundsException, IllegalArgumentException {
        if (job < 0 || job >= state.jobs) {
            throw new IndexOutOfBoundsException("no such job");
        }
        switch (what) {
            case 0: return state.jobCode[job];
            case 1: return state.pagesOfJob(job);
            case 2: return state.firstPageOfJob(job);
            case 3: return state.sheetsOfJob(job);
            default: throw new IllegalArgumentException("what out of range");
        }
    }

    public boolean isHalf(int sheet) throws IndexOutOfBoundsException {
        if (!isSheet(sheet)) {
            throw new IndexOutOfBoundsException("no such sheet");
        }
        return state.half[sheet] != 0;
    }

    // ---- the next pick, and what could come; nothing changes

    public int next(int what) throws IllegalArgumentException {
        if (what < 0 || what > 4) {
            throw new IllegalArgumentException("what out of range");
        }
        if (stackSize() == 0) {
            return NONE;
        }
        pick.measure(setup, state, state.top);
        switch (what) {
            case 0: return pick.sheets;
            case 1: return pick.thickness;
            case 2: return pick.length;
            case 3: return reasonToStop(state.limits[PERCENT], state.goods.usual(setup.usualThick));
            default: return pagesOfSheet(pick.first);
        }
    }

    public int ahead(int percent, int what) throws IllegalArgumentException {
        if (percent < LEAST[PERCENT] || percent > GREATEST[PERCENT]) {
            throw new IllegalArgumentException("percent out of range");
        }
        if (what < 0 || what > 4) {
            throw new IllegalArgumentException("what out of range");
        }
        foresee(percent);
        switch (what) {
            case 0: return forecast.thickStops;
            case 1: return forecast.thickSingles;
            case 2: return forecast.multiplesThrough;
            case 3: return forecast.pages;
            default: return forecast.removed;
        }
    }

    public int bestPercent() {
        int best = LEAST[PERCENT];
        int fewest = FAR_ABOVE;
        int sameBelow = LEAST[PERCENT];
        for (int percent = LEAST[PERCENT]; percent <= GREATEST[PERCENT]; percent++) {
            if (percent < sameBelow) {
                continue;
            }
            foresee(percent);
            sameBelow = forecast.sameBelow;
            int mistakes = forecast.thickSingles + forecast.multiplesThrough;
            if (mistakes < fewest) {
                fewest = mistakes;
                best = percent;
            }
        }
        return best;
    }

    public int blankFor(int sides) throws IllegalArgumentException {
        if (sides < 0 || sides > MAX_PAGES) {
            throw new IllegalArgumentException("sides out of range");
        }
        int low = LEAST[BLANK];
        int high = GREATEST[BLANK];
        if (setup.blankSides(high) < sides) {
            return NONE;
        }
        // A higher blank never makes fewer sides blank, so the range can be halved.
        for (int step = 0; step < 32 && low < high; step++) {
            int middle = (low + high) / 2;
            if (setup.blankSides(middle) >= sides) {
                high = middle;
            } else {
                low = middle + 1;
            }
        }
        return low;
    }

    public int account(int what) throws IllegalArgumentException {
        if (what < 0 || what >= ACCOUNTS) {
            throw new IllegalArgumentException("what out of range");
        }
        return state.accounts[what];
    }

    public int sheetsAt(int where) throws IllegalArgumentException {
        if (where < IN_STACK || where > REMOVED) {
            throw new IllegalArgumentException("where out of range");
        }
        int count = 0;
        for (int s = 0; s < setup.sheets; s++) {
            if (state.where[s] == where) {
                count++;
            }
        }
        return count;
    }

    public double meanInk() {
        if (state.pages <= 0) {
            return 0.0;
        }
        int sum = 0;
        for (int p = 0; p < state.pages; p++) {
            sum += setup.ink(state.pageSheet[p], state.pageSide[p]);
        }
        return (double) sum / state.pages;
    }

    // ---- changes

    public int feed(int picks) throws IllegalArgumentException, IllegalStateException {
        if (picks < 1 || picks > MAX_PICKS) {
            throw new IllegalArgumentException("picks out of range");
        }
        if (isStopped()) {
            throw new IllegalStateException("the feeder is stopped");
        }
        remember();
        int through = 0;
        for (int k = 0; k < picks && !isStopped() && stackSize() > 0; k++) {
            if (pickOnce()) {
                through++;
            }
        }
        return through;
    }

    public int putBack() throws IllegalStateException {
        if (!isStopped()) {
            throw new IllegalStateException("the feeder is not stopped");
        }
        remember();
        int first = firstInPath();
        for (int s = first; isSheet(s) && s < state.top; s++) {
            state.where[s] = IN_STACK;
            state.offset[s] = NONE;
        }
        if (isSheet(first)) {
            state.skew[first] /= 2;
        }
        state.count(PUT_BACK, state.inPath);
        state.top = first;
        clearPath();
        return stackSize();
    }

    public int remove() throws IllegalStateException {
        if (!isStopped()) {
            throw new IllegalStateException("the feeder is not stopped");
        }
        remember();
        for (int s = firstInPath(); isSheet(s) && s < state.top; s++) {
            state.where[s] = REMOVED;
            state.count(HALVES_REMOVED, state.half[s]);
            state.half[s] = 0;
        }
        int removed = state.inPath;
        clearPath();
        return removed;
    }

    public int accept() throws IllegalStateException {
        if (!isStopped() || state.reason == SKEWED) {
            throw new IllegalStateException("no pick that can be accepted");
        }
        remember();
        state.count(ACCEPTED, 1);
        int pages = goThrough(firstInPath(), state.inPath);
        clearPath();
        return pages;
    }

    public int endJob(int code) throws IllegalArgumentException, IllegalStateException {
        if (code < 0 || code > MAX_CODE) {
            throw new IllegalArgumentException("code out of range");
        }
        if (state.jobs >= JOBS_BY_HAND) {
            throw new IllegalStateException("too many jobs");
        }
        remember();
        state.beginJob(code);
        return state.jobs - 1;
    }

    public int setLimit(int what, int value) throws IllegalArgumentException {
        if (what < 0 || what >= LIMITS) {
            throw new IllegalArgumentException("what out of range");
        }
        if (value < LEAST[what] || value > GREATEST[what]) {
            throw new IllegalArgumentException("value out of range");
        }
        remember();
        int previous = state.limits[what];
        state.limits[what] = value;
        return previous;
    }

    public boolean setDuplex(boolean duplex) {
        remember();
        boolean previous = state.duplex;
        state.duplex = duplex;
        return previous;
    }

    // ---- undo and snapshots

    public int undo() {
        if (undoable <= 0) {
            return NONE;
        }
        remembered--;
        undoable--;
        state.copyFrom(history[Math.floorMod(remembered, MAX_UNDO)]);
        return undoable;
    }

    public boolean saveSnapshot(int slot) {
        if (slot < 0 || slot >= SLOTS) {
            return false;
        }
        snapshots[slot].copyFrom(state);
        saved[slot] = true;
        return true;
    }

    public boolean restoreSnapshot(int slot) {
        if (slot < 0 || slot >= SLOTS || !saved[slot]) {
            return false;
        }
        state.copyFrom(snapshots[slot]);
        undoable = 0;
        return true;
    }

    // ---- what the calls are made of

    private void beginAnew() {
        state.begin(setup);
        undoable = 0;
        for (int k = 0; k < SLOTS; k++) {
            saved[k] = false;
        }
    }

    /** Keeps the state ahead of a change; the oldest of ten is written over. */
    private void remember() {
        history[Math.floorMod(remembered, MAX_UNDO)].copyFrom(state);
        remembered++;
        undoable = Math.min(undoable + 1, MAX_UNDO);
    }

    private boolean isSheet(int sheet) {
        return sheet >= 0 && sheet < setup.sheets;
    }

    private boolean isStopped() {
        return state.reason != NO_STOP;
    }

    private int stackSize() {
        return setup.sheets - state.top;
    }

    private int firstInPath() {
        return state.top - state.inPath;
    }

    private int halves() {
        int count = 0;
        for (int s = 0; s < setup.sheets; s++) {
            count += state.half[s];
        }
        return count;
    }

    /** Takes the next pick from a stack that is not empty; tells whether it went through. */
    private boolean pickOnce() {
        pick.measure(setup, state, state.top);
        int reason = reasonToStop(state.limits[PERCENT], state.goods.usual(setup.usualThick));
        state.count(PICKS, 1);
        state.top += pick.sheets;
        if (reason != NO_STOP) {
            stop(reason);
            return false;
        }
        if (pick.sheets == 1) {
            state.goods.add(pick.thickness);
            state.count(GOOD, 1);
        }
        goThrough(pick.first, pick.sheets);
        return true;
    }

    /** Tells for which reason the measured pick would be stopped. */
    private int reasonToStop(int percent, int usual) {
        if (pick.thickness * 100 > percent * usual) {
            return TOO_THICK;
        }
        int tolerance = state.limits[TOLERANCE];
        if (pick.length > setup.usualLength + tolerance || pick.length < setup.usualLength - tolerance) {
            return WRONG_LENGTH;
        }
        return Math.abs(pick.skew) > state.limits[EDGE] ? SKEWED : NO_STOP;
    }

    private void stop(int reason) {
        state.reason = reason;
        state.inPath = pick.sheets;
        state.count(reason, 1);
        for (int s = pick.first; isSheet(s) && s < state.top; s++) {
            state.where[s] = IN_PATH;
        }
        if (reason == SKEWED && isSheet(pick.first) && setup.code[pick.first] == NONE) {
            state.half[pick.first] = 1;
        }
    }

    private void clearPath() {
        state.inPath = 0;
        state.reason = NO_STOP;
    }

    /** Lets sheets that were picked together through and tells how many pages come of them. */
    private int goThrough(int first, int sheets) {
        if (!isSheet(first)) {
            return 0;
        }
        for (int s = first + 1; isSheet(s) && s < first + sheets; s++) {
            state.where[s] = HIDDEN;
        }
        state.count(HALVES_REPLACED, state.half[first]);
        state.half[first] = 0;
        if (setup.code[first] != NONE) {
            state.where[first] = CODE_THROUGH;
            state.beginJob(setup.code[first]);
            return 0;
        }
        int pages = pagesOfSheet(first);
        if (isPage(first, 0)) {
            state.addPage(first, 0);
        }
        if (isPage(first, 1)) {
            state.addPage(first, 1);
        }
        state.where[first] = pages > 0 ? OUT : DROPPED;
        return pages;
    }

    private int pagesOfSheet(int sheet) {
        return (isPage(sheet, 0) ? 1 : 0) + (isPage(sheet, 1) ? 1 : 0);
    }

    /** Tells whether a side (0 front, 1 back) becomes a page if its sheet is scanned now. */
    private boolean isPage(int sheet, int side) {
        if (!isSheet(sheet) || setup.code[sheet] != NONE || side == 1 && !state.duplex) {
            return false;
        }
        return setup.ink(sheet, side) >= state.limits[BLANK];
    }

    /** Works out in the forecast what would happen to the whole stack. */
    private void foresee(int percent) {
        forecast.begin(state.goods);
        int top = state.top;
        for (int k = 0; k < MAX_SHEETS && top < setup.sheets; k++) {
            pick.measure(setup, state, top);
            int usual = forecast.goods.usual(setup.usualThick);
            int reason = reasonToStop(percent, usual);
            if (reason == NO_STOP) {
                forecast.addThrough(pick, pagesOfSheet(pick.first));
            } else {
                forecast.addStop(pick, reason, usual);
            }
            top += pick.sheets;
        }
    }

    /** What a text tells: the sheets as they were put in, and the limits and the mode at first. */
    private static final class Setup {
        final int[] length = new int[MAX_SHEETS];
        final int[] thick = new int[MAX_SHEETS];
        final int[] skew = new int[MAX_SHEETS];
        final int[] front = new int[MAX_SHEETS];
        final int[] back = new int[MAX_SHEETS];
        final int[] code = new int[MAX_SHEETS];
        final int[] offset = new int[MAX_SHEETS];
        final int[] limits = new int[LIMITS];
        int sheets;
        int usualLength;
        int usualThick;
        boolean duplex;

        void clear() {
            sheets = 0;
            duplex = true;
            System.arraycopy(USUAL, 0, limits, 0, LIMITS);
        }

        int ink(int sheet, int side) {
            if (sheet < 0 || sheet >= sheets) {
                return 0;
            }
            return side == 0 ? front[sheet] : back[sheet];
        }

        /** Counts the sides that would be blank; code sheets have none. */
        int blankSides(int blank) {
            int count = 0;
            for (int s = 0; s < sheets; s++) {
                if (code[s] == NONE) {
                    count += (front[s] < blank ? 1 : 0) + (back[s] < blank ? 1 : 0);
                }
            }
            return count;
        }

        /** Adds sheets like the last one; the caller has seen that there is one, and room. */
        void repeatLast(int times) {
            for (int k = 0; k < times && sheets > 0 && sheets < MAX_SHEETS; k++) {
                length[sheets] = length[sheets - 1];
                thick[sheets] = thick[sheets - 1];
                skew[sheets] = skew[sheets - 1];
                front[sheets] = front[sheets - 1];
                back[sheets] = back[sheets - 1];
                code[sheets] = code[sheets - 1];
                offset[sheets] = offset[sheets - 1];
                sheets++;
            }
        }
    }

    /** The thicknesses of the latest good picks. */
    private static final class Goods {
        final int[] thickness = new int[GOOD_PICKS];
        int added;

        void clear() {
            added = 0;
        }

        void copyFrom(Goods other) {
            System.arraycopy(other.thickness, 0, thickness, 0, GOOD_PICKS);
            added = other.added;
        }

        /** Writes over the oldest of six. */
        void add(int value) {
            thickness[Math.floorMod(added, GOOD_PICKS)] = value;
            added++;
        }

        int usual(int withoutPicks) {
            int count = Math.min(added, GOOD_PICKS);
            if (count <= 0) {
                return withoutPicks;
            }
            int sum = 0;
            for (int k = 0; k < count; k++) {
                sum += thickness[k];
            }
            return sum / count;
        }
    }

    /**
     * All that changes can change. Sheets leave the stack from the top and come back to it in the
     * same order, so the path and the stack are the sheets from top - inPath and from top on.
     */
    private static final class State {
        final int[] where = new int[MAX_SHEETS];
        final int[] skew = new int[MAX_SHEETS];
        final int[] offset = new int[MAX_SHEETS];
        final int[] half = new int[MAX_SHEETS];
        final int[] pageSheet = new int[MAX_PAGES];
        final int[] pageSide = new int[MAX_PAGES];
        final int[] pageJob = new int[MAX_PAGES];
        final int[] jobCode = new int[MAX_JOBS];
        final int[] limits = new int[LIMITS];
        final int[] accounts = new int[ACCOUNTS];
        final Goods goods = new Goods();
        int top;
        int inPath;
        int reason;
        int pages;
        int jobs;
        boolean duplex;

        void begin(Setup setup) {
            for (int s = 0; s < MAX_SHEETS; s++) {
                where[s] = IN_STACK;
                half[s] = 0;
            }
            System.arraycopy(setup.skew, 0, skew, 0, MAX_SHEETS);
            System.arraycopy(setup.offset, 0, offset, 0, MAX_SHEETS);
            System.arraycopy(setup.limits, 0, limits, 0, LIMITS);
            for (int k = 0; k < ACCOUNTS; k++) {
                accounts[k] = 0;
            }
            goods.clear();
            top = 0;
            inPath = 0;
            reason = NO_STOP;
            pages = 0;
            jobs = 0;
            duplex = setup.duplex;
            beginJob(NONE);
        }

        void copyFrom(State other) {
            System.arraycopy(other.where, 0, where, 0, MAX_SHEETS);
            System.arraycopy(other.skew, 0, skew, 0, MAX_SHEETS);
            System.arraycopy(other.offset, 0, offset, 0, MAX_SHEETS);
            System.arraycopy(other.half, 0, half, 0, MAX_SHEETS);
            System.arraycopy(other.pageSheet, 0, pageSheet, 0, MAX_PAGES);
            System.arraycopy(other.pageSide, 0, pageSide, 0, MAX_PAGES);
            System.arraycopy(other.pageJob, 0, pageJob, 0, MAX_PAGES);
            System.arraycopy(other.jobCode, 0, jobCode, 0, MAX_JOBS);
            System.arraycopy(other.limits, 0, limits, 0, LIMITS);
            System.arraycopy(other.accounts, 0, accounts, 0, ACCOUNTS);
            goods.copyFrom(other.goods);
            top = other.top;
            inPath = other.inPath;
            reason = other.reason;
            pages = other.pages;
            jobs = other.jobs;
            duplex = other.duplex;
        }

        void count(int account, int number) {
            if (account >= 0 && account < ACCOUNTS) {
                accounts[account] += number;
            }
        }

        void beginJob(int code) {
            if (jobs < MAX_JOBS) {
                jobCode[jobs] = code;
                jobs++;
            }
        }

        void addPage(int sheet, int side) {
            if (pages < MAX_PAGES) {
                pageSheet[pages] = sheet;
                pageSide[pages] = side;
                pageJob[pages] = jobs - 1;
                pages++;
            }
        }

        int pagesOfJob(int job) {
            int count = 0;
            for (int p = 0; p < pages; p++) {
                if (pageJob[p] == job) {
                    count++;
                }
            }
            return count;
        }

        int firstPageOfJob(int job) {
            for (int p = 0; p < pages; p++) {
                if (pageJob[p] == job) {
                    return p;
                }
            }
            return NONE;
        }

        /** Counts the sheets that are out; the pages of one stand next to each other. */
        int sheetsOfJob(int job) {
            int count = 0;
            for (int p = 0; p < pages; p++) {
                if (pageJob[p] == job && (p == 0 || pageSheet[p] != pageSheet[p - 1])) {
                    count++;
                }
            }
            return count;
        }
    }

    /** The sheets that would be picked together from a stack that begins at the first of them. */
    private static final class Pick {
        int first;
        int sheets;
        int thickness;
        int length;
        int skew;

        void measure(Setup setup, State state, int top) {
            first = top;
            sheets = 0;
            thickness = 0;
            length = 0;
            skew = top >= 0 && top < setup.sheets ? state.skew[top] : 0;
            int start = 0;
            for (int s = top; s >= 0 && s < setup.sheets; s++) {
                sheets++;
                thickness += setup.thick[s];
                length = Math.max(length, start + setup.length[s]);
                if (state.offset[s] == NONE) {
                    break;
                }
                start += state.offset[s];
            }
        }
    }

    /** The numbers of what would happen if the stack was fed. */
    private static final class Forecast {
        final Goods goods = new Goods();
        int thickStops;
        int thickSingles;
        int multiplesThrough;
        int pages;
        int removed;
        /** With every percent from the present one up to below this one the same would happen. */
        int sameBelow;

        void begin(Goods present) {
            goods.copyFrom(present);
            thickStops = 0;
            thickSingles = 0;
            multiplesThrough = 0;
            pages = 0;
            removed = 0;
            sameBelow = FAR_ABOVE;
        }

        void addThrough(Pick pick, int pagesOfPick) {
            pages += pagesOfPick;
            if (pick.sheets == 1) {
                goods.add(pick.thickness);
            } else {
                multiplesThrough++;
            }
        }

        void addStop(Pick pick, int reason, int usual) {
            removed += pick.sheets;
            if (reason != TOO_THICK) {
                return;
            }
            thickStops++;
            if (pick.sheets == 1) {
                thickSingles++;
            }
            if (usual > 0) {
                // The least percent that would let the thickness pass, rounded up.
                sameBelow = Math.min(sameBelow, (pick.thickness * 100 + usual - 1) / usual);
            }
        }
    }

    /** The input buffer, and what reads it into a setup; one token stands read ahead. */
    private static final class Parser {
        private static final int END = 0;
        private static final int WORD = 1;
        private static final int NUMBER = 2;
        private static final int SEMICOLON = 3;
        private static final int MINUS = 4;
        private static final int ILLEGAL = 5;

        private static final int SYNTAX = 1;
        private static final int REPEATED = 2;
        private static final int NOTHING = 3;
        private static final int RANGE = 4;
        private static final int TOO_MANY = 5;

        private static final int WORD_LETTERS = 8;
        private static final int NUMBER_DIGITS = 4;

        private final byte[] text = new byte[MAX_BYTES];
        private int filled;
        private Setup out = new Setup();
        private int length;
        private int kind;
        private int start;
        private int end;
        private int error;
        private boolean limitsSeen;
        private boolean simplexSeen;

        /** Adds four bytes to the buffer, the most significant one first. */
        void addFour(int bytes) {
            for (int shift = 24; shift >= 0 && filled < MAX_BYTES; shift -= 8) {
                text[filled] = (byte) (bytes >> shift);
                filled++;
            }
        }

        /** Hands out what was read, and takes a setup that is not needed any more to read into. */
        Setup exchange(Setup old) {
            Setup read = out;
            out = old;
            return read;
        }

        /**
         * Reads the first bytes of the buffer, which is empty then. Returns NONE after a success,
         * otherwise 8 * offset + kind of the first error.
         */
        int read(int bytes) {
            length = Math.min(bytes, filled);
            filled = 0;
            out.clear();
            error = NONE;
            limitsSeen = false;
            simplexSeen = false;
            end = 0;
            advance();
            if (!takeIf("feeder")) {
                fail(SYNTAX);
            }
            out.usualLength = takeNumber(50, 500);
            out.usualThick = takeNumber(30, 500);
            takeSemicolon();
            for (int k = 0; k < MAX_BYTES && error == NONE && kind != END; k++) {
                readStatement();
                takeSemicolon();
            }
            return error;
        }

        private void readStatement() {
            if (isWord("sheet")) {
                readSheet(false);
            } else if (isWord("code")) {
                readSheet(true);
            } else if (isWord("again")) {
                readAgain();
            } else if (isWord("limits")) {
                readLimits();
            } else if (isWord("simplex")) {
                readSimplex();
            } else {
                fail(SYNTAX);
            }
        }

        private void readSheet(boolean isCode) {
            int s = out.sheets;
            if (s >= MAX_SHEETS) {
                fail(TOO_MANY);
                return;
            }
            advance();
            out.code[s] = isCode ? takeNumber(0, MAX_CODE) : NONE;
            out.length[s] = takeNumber(50, 500);
            out.thick[s] = takeNumber(30, 500);
            boolean negative = takeMinus();
            int amount = takeNumber(0, 99);
            out.skew[s] = negative ? -amount : amount;
            out.front[s] = isCode ? 0 : takeNumber(0, 1000);
            out.back[s] = isCode ? 0 : takeNumber(0, 1000);
            out.offset[s] = takeIf("stuck") ? takeNumber(0, 400) : NONE;
            out.sheets = s + 1;
        }

        private void readAgain() {
            if (out.sheets == 0) {
                fail(NOTHING);
                return;
            }
            advance();
            int numberStart = start;
            int times = takeNumber(1, 39);
            if (error != NONE) {
                return;
            }
            if (out.sheets + times > MAX_SHEETS) {
                error = 8 * numberStart + TOO_MANY;
                return;
            }
            out.repeatLast(times);
        }

        private void readLimits() {
            if (limitsSeen) {
                fail(REPEATED);
                return;
            }
            limitsSeen = true;
            advance();
            for (int k = 0; k < LIMITS; k++) {
                out.limits[k] = takeNumber(LEAST[k], GREATEST[k]);
            }
        }

        private void readSimplex() {
            if (simplexSeen) {
                fail(REPEATED);
                return;
            }
            simplexSeen = true;
            advance();
            out.duplex = false;
        }

        /** Only the first error counts: tokens are read from left to right. */
        private void fail(int errorKind) {
            if (error == NONE) {
                error = 8 * start + errorKind;
            }
        }

        private boolean takeIf(String word) {
            if (!isWord(word)) {
                return false;
            }
            advance();
            return true;
        }

        private void takeSemicolon() {
            if (error == NONE && kind == SEMICOLON) {
                advance();
            } else {
                fail(SYNTAX);
            }
        }

        private boolean takeMinus() {
            if (error != NONE || kind != MINUS) {
                return false;
            }
            advance();
            return true;
        }

        private int takeNumber(int least, int greatest) {
            if (error != NONE || kind != NUMBER) {
                fail(SYNTAX);
                return NONE;
            }
            int value = 0;
            for (int i = start; i < end; i++) {
                value = 10 * value + (text[i] - '0');
            }
            if (value < least || value > greatest) {
                fail(RANGE);
                return NONE;
            }
            advance();
            return value;
        }

        private boolean isWord(String word) {
            if (error != NONE || kind != WORD || end - start != word.length()) {
                return false;
            }
            for (int i = 0; i < word.length(); i++) {
                if (text[start + i] != word.charAt(i)) {
                    return false;
                }
            }
            return true;
        }

        /** Finds the next token. At the end its start is the length of the text. */
        private void advance() {
            start = end;
            while (start < length && (text[start] == 32 || text[start] == 10)) {
                start++;
            }
            if (start >= length) {
                end = length;
                kind = END;
            } else if (text[start] >= 'a' && text[start] <= 'z') {
                end = runEnd('a', 'z');
                kind = end - start <= WORD_LETTERS ? WORD : ILLEGAL;
            } else if (text[start] >= '0' && text[start] <= '9') {
                end = runEnd('0', '9');
                kind = end - start <= NUMBER_DIGITS ? NUMBER : ILLEGAL;
            } else {
                end = start + 1;
                kind = text[start] == ';' ? SEMICOLON : text[start] == '-' ? MINUS : ILLEGAL;
            }
        }

        private int runEnd(char first, char last) {
            int i = start;
            while (i < length && text[i] >= first && text[i] <= last) {
                i++;
            }
            return i;
        }
    }
}
