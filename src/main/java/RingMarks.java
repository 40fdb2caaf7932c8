import java.util.Arrays;

/** Rings between a driver and a device, and two small programs gone through in all their interleavings. */
public final class RingMarks {
    public static final int NONE = -1;

    private static final int KEPT_IMAGES = 2;
    private static final int MOST_DEEDS = 60;
    private static final int FAULT_BASE = -1000;

    private final Tape tape = new Tape();
    private final Chain read = new Chain();
    private final Ring ring = new Ring();
    private final Ring[] kept = new Ring[KEPT_IMAGES];
    private final Walk latestWalk = new Walk();
    // chain() must leave walked() as it is, so it has a walk of its own.
    private final Walk trialWalk = new Walk();
    private final Programs programs = new Programs();
    private final State stand = new State();
    private final int[] drainedOnes = new int[Ring.MOST_PLACES];
    private int drainedCount = 0;
    private int toldLength = NONE;
    private int seed = 0;
    // Its rows are large, so it is made by the first call that asks for it.
    private Search search = null;

    public RingMarks() {
    }

    public int feed(int a, int b, int c, int d, int e) {
        if (!tape.hasRoomFor(20)) {
            return NONE;
        }
        tape.addNumber(a);
        tape.addNumber(b);
        tape.addNumber(c);
        tape.addNumber(d);
        tape.addNumber(e);
        return tape.size;
    }

    public boolean end(int n) {
        if (n < 0 || n > tape.size) {
            return false;
        }
        tape.size = n;
        return true;
    }

    public int setup(int format, int places, int features) {
        boolean known = (format == 0 || format == 1) && (places == 2 || places == 4 || places == 8);
        if (!known || features < 0 || features > 7) {
            return NONE;
        }
        ring.begin(format, places, features);
        return 0;
    }

    public int offer(int how) {
        int fault = how == 0 || how == 1 ? read.readFrom(tape) : NONE;
        tape.size = 0;
        if (how != 0 && how != 1) {
            return -2;
        }
        return fault != NONE ? FAULT_BASE - fault : ring.lay(read, how == 1);
    }

    public int fetch() {
        return ring.take(latestWalk);
    }

    public int finish(int b, int n) {
        return ring.use(b, n, false);
    }

    public int batch(int b, int n) {
        return ring.use(b, n, true);
    }

    public int reap() {
        int b = ring.gather();
        if (b >= 0) {
            toldLength = ring.lengthGathered();
        }
        return b;
    }

    public int length() {
        return toldLength;
    }

    public int kick() {
        return ring.notifyDevice();
    }

    public int signal() {
        return ring.notifyDriver();
    }

    public int event(int side, int n) {
        return ring.tellEvent(side, n);
    }

    public int hush(int side, int on) {
        return ring.tellHush(side, on);
    }

    public int reset() {
        drainedCount = ring.drainInto(drainedOnes);
        return drainedCount;
    }

    public int drained(int k) {
        return k >= 0 && k < drainedCount && k < drainedOnes.length ? drainedOnes[k] : NONE;
    }

    public int spoil(int table, int i, int what, int v) {
        int most = what == Ring.LEN ? 999 : what == Ring.FLAGS ? 31 : 99;
        int was = ring.cell(table, i, what);
        if (was == NONE || v < 0 || v > most) {
            return NONE;
        }
        ring.putCell(table, i, what, v);
        return was;
    }

    public int descriptor(int table, int i, int what) {
        return ring.cell(table, i, what);
    }

    public int table(int k) {
        return ring.sizeOf(k);
    }

    public int row(int place, int what) {
        return ring.rowAt(place, what);
    }

    public int buffer(int b, int what) {
        return ring.ofBuffer(b, what);
    }

    public int now(int what) {
        return what >= 0 && what <= Ring.UP_TO ? ring.marks[what] : NONE;
    }

    public int walked(int i) {
        return latestWalk.act(i);
    }

    public int chain(int i) {
        if (ring.isPacked()) {
            return NONE;
        }
        trialWalk.go(ring, i);
        return trialWalk.reason == 0 ? trialWalk.parts : -10 - trialWalk.reason;
    }

    public int due(int event, int old, int now) {
        int m = ring.wrapsAt();
        boolean known = event >= 0 && event < m && old >= 0 && old < m && now >= 0 && now < m;
        if (!known) {
            return NONE;
        }
        return Ring.isPassed(event, old, now, m) ? 1 : 0;
    }

    public int steps(int side) {
        int fault = side == 0 || side == 1 ? programs.readFrom(tape, side) : NONE;
        tape.size = 0;
        if (side != 0 && side != 1) {
            return -2;
        }
        if (fault != NONE) {
            return FAULT_BASE - fault;
        }
        stand.clear();
        if (search != null) {
            search.stale = true;
        }
        return programs.lengthOf(side);
    }

    public int states() {
        return searched().stateCount();
    }

    public int missed() {
        return searched().keepMissedPath();
    }

    public int missedBy(int i) {
        return search == null ? NONE : search.sideAt(i);
    }

    public int misses() {
        Search s = searched();
        return s.isTooLarge() ? NONE : s.missedCount;
    }

    public int play() {
        stand.clear();
        int done = 0;
        while (done < tape.size && programs.go(stand, tape.byteAt(done))) {
            done++;
        }
        tape.size = 0;
        return done;
    }

    public int played(int what) {
        return what == 9 ? (programs.isMissed(stand) ? 1 : 0) : stand.number(what);
    }

    public int notices(int what) {
        if (what != 0 && what != 1) {
            return NONE;
        }
        Search s = searched();
        if (s.isTooLarge()) {
            return NONE;
        }
        return what == 0 ? s.fewestSent : s.mostSent;
    }

    public int drawn(int n, int seed) {
        if (n < 1 || n > MOST_DEEDS) {
            return NONE;
        }
        this.seed = seed;
        int done = 0;
        for (int k = 0; k < n; k++) {
            if (isDeedDone(draw(8))) {
                done++;
            }
        }
        return done;
    }

    public boolean image(int k) {
        if (k < 0 || k >= kept.length) {
            return false;
        }
        Ring copy = kept[k];
        if (copy == null) {
            copy = new Ring();
            kept[k] = copy;
        }
        copy.copyFrom(ring);
        return true;
    }

    public boolean restore(int k) {
        if (k < 0 || k >= kept.length) {
            return false;
        }
        Ring copy = kept[k];
        if (copy == null) {
            return false;
        }
        ring.copyFrom(copy);
        return true;
    }

    public int count(int what) {
        switch (what) {
            case 0:
                return ring.marks[Ring.FORMAT];
            case 1:
                return ring.places();
            case 2:
                return ring.marks[Ring.FEATURES];
            case 3:
                return ring.wrapsAt();
            case 4:
                return tape.size;
            case 5:
                return programs.lengthOf(0);
            case 6:
                return programs.lengthOf(1);
            default:
                return NONE;
        }
    }

    private Search searched() {
        if (search == null) {
            search = new Search();
        }
        if (search.stale) {
            search.run(programs);
        }
        return search;
    }

    private int draw(int n) {
        seed = seed * 1103515245 + 12345;
        return n > 0 ? (seed >>> 8) % n : 0;
    }

    private boolean isDeedDone(int deed) {
        switch (deed) {
            case 0:
            case 1:
                return isDrawnChainLaid();
            case 2:
            case 3:
                return ring.take(latestWalk) >= 0;
            case 4:
            case 5:
                return isFirstFetchedFinished();
            case 6:
                return reap() >= 0;
            default:
                return ring.notifyDevice() + ring.notifyDriver() > 0;
        }
    }

    private boolean isDrawnChainLaid() {
        int reads = draw(3) + 1;
        int writes = draw(2);
        read.clear();
        for (int k = 0; k < reads; k++) {
            read.addPart(4, false);
        }
        for (int k = 0; k < writes; k++) {
            read.addPart(9, true);
        }
        return ring.lay(read, false) >= 0;
    }

    private boolean isFirstFetchedFinished() {
        int b = ring.firstFetched();
        return b != NONE && ring.use(b, draw(10), false) == 0;
    }

    /** The bytes that were fed, and the place up to which they were read. */
    private static final class Tape {
        static final int LIMIT = 100;
        static final int BLANK = 32;

        final int[] bytes = new int[LIMIT];
        int size = 0;
        int at = 0;

        boolean hasRoomFor(int n) {
            return size + n <= LIMIT;
        }

        void addNumber(int number) {
            for (int shift = 24; shift >= 0 && size < LIMIT; shift -= 8) {
                bytes[size] = number >>> shift & 255;
                size++;
            }
        }

        int byteAt(int i) {
            return i >= 0 && i < size && i < LIMIT ? bytes[i] : NONE;
        }

        boolean isAtEnd() {
            return at >= size;
        }

        int peek() {
            return byteAt(at);
        }

        void skipBlanks() {
            while (at < size && peek() == BLANK) {
                at++;
            }
        }

        boolean isAtDigit() {
            return peek() >= '0' && peek() <= '9';
        }

        boolean isAtLetter() {
            return peek() >= 'a' && peek() <= 'z';
        }

        /** The number that stands here; all above the limit are told as one more than it. */
        int readNumber(int limit) {
            int value = 0;
            while (at < size && isAtDigit()) {
                value = Math.min(value * 10 + peek() - '0', limit + 1);
                at++;
            }
            return value;
        }

        void skipWord() {
            while (at < size && isAtLetter()) {
                at++;
            }
        }

        boolean isWord(int from, int to, String word) {
            if (to - from != word.length()) {
                return false;
            }
            for (int k = 0; k < word.length(); k++) {
                if (byteAt(from + k) != word.charAt(k)) {
                    return false;
                }
            }
            return true;
        }
    }

    /** The parts of a buffer that is to be offered. */
    private static final class Chain {
        static final int MOST_PARTS = 8;
        static final int MOST_BYTES = 60;
        static final int MOST_LENGTH = 999;

        final int[] lengths = new int[MOST_PARTS];
        final boolean[] writes = new boolean[MOST_PARTS];
        int size = 0;

        void clear() {
            size = 0;
        }

        void addPart(int length, boolean write) {
            if (size < MOST_PARTS) {
                lengths[size] = length;
                writes[size] = write;
                size++;
            }
        }

        int lengthOf(int k) {
            return k >= 0 && k < size && k < MOST_PARTS ? lengths[k] : 0;
        }

        int flagsOf(int k) {
            boolean write = k >= 0 && k < size && k < MOST_PARTS && writes[k];
            return (write ? Ring.WRITE : 0) | (k < size - 1 ? Ring.NEXT : 0);
        }

        /** The place of the first fault, or NONE. */
        int readFrom(Tape tape) {
            clear();
            if (tape.size > MOST_BYTES) {
                return MOST_BYTES;
            }
            tape.at = 0;
            for (int k = 0; k <= MOST_PARTS; k++) {
                tape.skipBlanks();
                if (k > 0 && tape.isAtEnd()) {
                    return NONE;
                }
                int fault = k < MOST_PARTS ? readPart(tape) : tape.at;
                if (fault != NONE) {
                    return fault;
                }
            }
            return tape.at;
        }

        private int readPart(Tape tape) {
            boolean write = tape.peek() == 'w';
            if (!write && tape.peek() != 'r') {
                return tape.at;
            }
            tape.at++;
            tape.skipBlanks();
            int from = tape.at;
            if (!tape.isAtDigit()) {
                return from;
            }
            int length = tape.readNumber(MOST_LENGTH);
            if (length > MOST_LENGTH) {
                return from;
            }
            addPart(length, write);
            return NONE;
        }
    }

    /** The ring, its tables, rows and buffers: all that an image keeps. */
    private static final class Ring {
        static final int MOST_PLACES = 8;
        static final int MOST_BUFFERS = 500;
        static final int TABLES = 5;
        static final int SPLIT_WRAP = 16;

        // What a descriptor has, and its flags.
        static final int LEN = 0;
        static final int FLAGS = 1;
        static final int LINK = 2;
        static final int NEXT = 1;
        static final int WRITE = 2;
        static final int INDIRECT = 4;
        static final int AVAIL = 8;
        static final int DONE = 16;

        static final int WITH_ORDER = 1;
        static final int WITH_INDIRECT = 2;
        static final int WITH_EVENT = 4;

        // The marks 0 to 12 are numbered as now() asks for them.
        static final int OFFERED = 0;
        static final int SEEN = 1;
        static final int USED = 2;
        static final int TAKEN = 3;
        static final int FREE = 4;
        static final int BUFFERS = 5;
        static final int OPEN = 6;
        static final int BROKEN = 7;
        static final int KICKS = 8;
        static final int SIGNALS = 9;
        static final int DEVICE_EVENT = 10;
        static final int DRIVER_EVENT = 11;
        static final int UP_TO = 12;
        static final int UP_TO_LENGTH = 13;
        static final int KICKED_AT = 14;
        static final int SIGNALLED_AT = 15;
        static final int DRIVER_HUSHES = 16;
        static final int DEVICE_HUSHES = 17;
        static final int FORMAT = 18;
        static final int PLACES = 19;
        static final int FEATURES = 20;
        static final int WRAPS_AT = 21;
        static final int MARKS = 22;

        // What a buffer has is numbered as buffer() asks for it.
        static final int STATE = 0;
        static final int PARTS = 1;
        static final int ID = 2;
        static final int TABLE = 3;
        static final int CAPACITY = 4;
        static final int LOAD = 5;
        static final int WRITTEN = 6;
        static final int HELD = 7;
        static final int BUFFER_FIELDS = 8;

        static final int IS_OFFERED = 0;
        static final int IS_FETCHED = 1;
        static final int IS_FINISHED = 2;
        static final int IS_REAPED = 3;
        static final int IS_DRAINED = 4;

        // What is kept at a place of the rows is numbered as row() asks for it.
        static final int ROW_OFFERED = 0;
        static final int ROW_USED = 1;
        static final int ROW_LENGTH = 2;

        final int[] marks = new int[MARKS];
        final int[] cells = new int[TABLES * MOST_PLACES * 3];
        final int[] sizes = new int[TABLES];
        final int[] rows = new int[MOST_PLACES * 3];
        // The buffer that has a descriptor (split) or an ID (packed); each open buffer stands here.
        final int[] owners = new int[MOST_PLACES];
        final int[] tableOwners = new int[TABLES];
        final int[] buffers = new int[MOST_BUFFERS * BUFFER_FIELDS];

        Ring() {
            begin(0, 4, 0);
        }

        void begin(int format, int places, int features) {
            Arrays.fill(marks, 0);
            marks[FORMAT] = format;
            marks[PLACES] = places;
            marks[FEATURES] = features;
            marks[WRAPS_AT] = format == 1 ? 2 * places : SPLIT_WRAP;
            Arrays.fill(sizes, 0);
            sizes[0] = places;
            clearTransport();
        }

        void copyFrom(Ring other) {
            System.arraycopy(other.marks, 0, marks, 0, MARKS);
            System.arraycopy(other.cells, 0, cells, 0, cells.length);
            System.arraycopy(other.sizes, 0, sizes, 0, TABLES);
            System.arraycopy(other.rows, 0, rows, 0, rows.length);
            System.arraycopy(other.owners, 0, owners, 0, MOST_PLACES);
            System.arraycopy(other.tableOwners, 0, tableOwners, 0, TABLES);
            int used = Math.min(other.marks[BUFFERS], MOST_BUFFERS) * BUFFER_FIELDS;
            System.arraycopy(other.buffers, 0, buffers, 0, used);
        }

        /** What is as at first behind a reset, too: not the numbers of buffers and notices, not the tables 1 to 4. */
        private void clearTransport() {
            marks[OFFERED] = 0;
            marks[SEEN] = 0;
            marks[USED] = 0;
            marks[TAKEN] = 0;
            marks[FREE] = marks[PLACES];
            marks[OPEN] = 0;
            marks[BROKEN] = 0;
            marks[DEVICE_EVENT] = 0;
            marks[DRIVER_EVENT] = 0;
            marks[UP_TO] = NONE;
            marks[UP_TO_LENGTH] = NONE;
            marks[KICKED_AT] = 0;
            marks[SIGNALLED_AT] = 0;
            marks[DRIVER_HUSHES] = 0;
            marks[DEVICE_HUSHES] = 0;
            for (int i = 0; i < marks[PLACES]; i++) {
                putDescriptor(0, i, 0, 0, 0);
            }
            Arrays.fill(rows, NONE);
            Arrays.fill(owners, NONE);
            Arrays.fill(tableOwners, NONE);
        }

        boolean isPacked() {
            return marks[FORMAT] == 1;
        }

        boolean hasFeature(int feature) {
            return (marks[FEATURES] & feature) != 0;
        }

        int places() {
            return marks[PLACES];
        }

        int wrapsAt() {
            return marks[WRAPS_AT];
        }

        // Places and wraps are powers of two, so a mask stands for the rest of a division.
        int placeOf(int position) {
            return position & marks[PLACES] - 1;
        }

        int moved(int position, int by) {
            return position + by & marks[WRAPS_AT] - 1;
        }

        boolean wrapOf(int position) {
            return position < marks[PLACES];
        }

        /** Whether an event lies in what was passed from old to new, by compares that wrap at m (a power of two). */
        static boolean isPassed(int event, int old, int now, int m) {
            return (now - event - 1 & m - 1) < (now - old & m - 1);
        }

        int sizeOf(int table) {
            return table >= 0 && table < TABLES ? sizes[table] : NONE;
        }

        int cell(int table, int i, int what) {
            boolean known = table >= 0 && table < TABLES && i >= 0 && i < MOST_PLACES && what >= LEN && what <= LINK;
            return known && i < sizes[table] ? cells[(table * MOST_PLACES + i) * 3 + what] : NONE;
        }

        void putCell(int table, int i, int what, int value) {
            boolean known = table >= 0 && table < TABLES && i >= 0 && i < MOST_PLACES && what >= LEN && what <= LINK;
            if (known && i < sizes[table]) {
                cells[(table * MOST_PLACES + i) * 3 + what] = value;
            }
        }

        private void putDescriptor(int table, int i, int len, int flags, int link) {
            putCell(table, i, LEN, len);
            putCell(table, i, FLAGS, flags);
            putCell(table, i, LINK, link);
        }

        int rowAt(int place, int what) {
            boolean known = place >= 0 && place < places() && place < MOST_PLACES && what >= 0 && what <= ROW_LENGTH;
            return known && !isPacked() ? rows[place * 3 + what] : NONE;
        }

        private void putRow(int place, int what, int value) {
            if (place >= 0 && place < MOST_PLACES && what >= 0 && what <= ROW_LENGTH) {
                rows[place * 3 + what] = value;
            }
        }

        int ofBuffer(int b, int what) {
            boolean known = b >= 0 && b < marks[BUFFERS] && b < MOST_BUFFERS && what >= 0 && what < BUFFER_FIELDS;
            return known ? buffers[b * BUFFER_FIELDS + what] : NONE;
        }

        private void putBuffer(int b, int what, int value) {
            if (b >= 0 && b < MOST_BUFFERS && what >= 0 && what < BUFFER_FIELDS) {
                buffers[b * BUFFER_FIELDS + what] = value;
            }
        }

        /** The flags of a packed place: available by this wrap, or (with done) used by it. */
        boolean isMarked(int position, boolean done) {
            int flags = cell(0, placeOf(position), FLAGS);
            boolean wrap = wrapOf(position);
            boolean avail = (flags & AVAIL) != 0;
            boolean used = (flags & DONE) != 0;
            return avail == wrap && used == (done ? wrap : !wrap);
        }

        // ---- the driver offers

        int lay(Chain chain, boolean indirect) {
            if (marks[BROKEN] != 0) {
                return -3;
            }
            if (indirect && !hasFeature(WITH_INDIRECT)) {
                return -4;
            }
            int needed = indirect ? 1 : chain.size;
            int id = leastFreeId();
            if (marks[FREE] < needed || id == NONE) {
                return -5;
            }
            int table = indirect ? freeTableFor(id) : NONE;
            if (indirect && table == NONE) {
                return -6;
            }
            if (marks[BUFFERS] >= MOST_BUFFERS) {
                return -7;
            }
            int b = marks[BUFFERS];
            noteBuffer(b, chain.size, id, table, needed);
            if (indirect) {
                layTable(b, table, chain);
            }
            if (isPacked()) {
                layPacked(b, chain, needed);
            } else {
                laySplit(b, chain, needed);
            }
            return b;
        }

        /** The least ID, or the least descriptor, that no buffer has. */
        private int leastFreeId() {
            for (int i = 0; i < places() && i < MOST_PLACES; i++) {
                if (owners[i] == NONE) {
                    return i;
                }
            }
            return NONE;
        }

        private int freeTableFor(int id) {
            if (isPacked()) {
                int own = tableOfId(id);
                return tableOwners[own] == NONE ? own : NONE;
            }
            for (int t = 1; t < TABLES; t++) {
                if (tableOwners[t] == NONE) {
                    return t;
                }
            }
            return NONE;
        }

        static int tableOfId(int id) {
            return (id & 3) + 1;
        }

        private void noteBuffer(int b, int parts, int id, int table, int needed) {
            marks[BUFFERS]++;
            marks[OPEN]++;
            marks[FREE] -= needed;
            putBuffer(b, STATE, IS_OFFERED);
            putBuffer(b, PARTS, parts);
            putBuffer(b, ID, id);
            putBuffer(b, TABLE, table);
            putBuffer(b, CAPACITY, NONE);
            putBuffer(b, LOAD, NONE);
            putBuffer(b, WRITTEN, NONE);
            putBuffer(b, HELD, needed);
        }

        private void layTable(int b, int table, Chain chain) {
            if (table < 1 || table >= TABLES) {
                return;
            }
            tableOwners[table] = b;
            sizes[table] = chain.size;
            for (int k = 0; k < chain.size; k++) {
                int link = k < chain.size - 1 ? k + 1 : 0;
                putDescriptor(table, k, chain.lengthOf(k), chain.flagsOf(k), link);
            }
        }

        private void laySplit(int b, Chain chain, int needed) {
            int table = ofBuffer(b, TABLE);
            int before = NONE;
            int laid = 0;
            for (int i = 0; i < places() && i < MOST_PLACES && laid < needed; i++) {
                if (owners[i] != NONE) {
                    continue;
                }
                owners[i] = b;
                if (table == NONE) {
                    putDescriptor(0, i, chain.lengthOf(laid), chain.flagsOf(laid), 0);
                } else {
                    putDescriptor(0, i, chain.size, INDIRECT, table);
                }
                putCell(0, before, LINK, i);
                before = i;
                laid++;
            }
            putRow(placeOf(marks[OFFERED]), ROW_OFFERED, ofBuffer(b, ID));
            marks[OFFERED] = moved(marks[OFFERED], 1);
        }

        private void layPacked(int b, Chain chain, int needed) {
            int id = ofBuffer(b, ID);
            boolean indirect = ofBuffer(b, TABLE) != NONE;
            if (id >= 0 && id < MOST_PLACES) {
                owners[id] = b;
            }
            for (int k = 0; k < needed; k++) {
                int position = moved(marks[OFFERED], k);
                int marked = wrapOf(position) ? AVAIL : DONE;
                int len = indirect ? chain.size : chain.lengthOf(k);
                int flags = indirect ? INDIRECT : chain.flagsOf(k);
                putDescriptor(0, placeOf(position), len, flags | marked, id);
            }
            marks[OFFERED] = moved(marks[OFFERED], needed);
        }

        // ---- the device fetches and finishes

        int take(Walk walk) {
            // Broken is told till reset(), whatever the marks that the device would look at become.
            if (marks[BROKEN] != 0) {
                return -2;
            }
            boolean there = isPacked() ? isMarked(marks[SEEN], false) : marks[SEEN] != marks[OFFERED];
            if (!there) {
                return NONE;
            }
            int start = isPacked() ? marks[SEEN] : rowAt(placeOf(marks[SEEN]), ROW_OFFERED);
            walk.go(this, start);
            int b = holderOf(isPacked() ? walk.lastLink : start, IS_OFFERED);
            int reason = walk.reason == 0 && b == NONE ? Walk.NO_BUFFER : walk.reason;
            if (reason != 0) {
                marks[BROKEN] = reason;
                return -10 - reason;
            }
            putBuffer(b, STATE, IS_FETCHED);
            putBuffer(b, CAPACITY, walk.capacity);
            putBuffer(b, LOAD, walk.load);
            marks[SEEN] = moved(marks[SEEN], isPacked() ? walk.places : 1);
            return b;
        }

        /** The open buffer of that HEAD or ID that is in that state, or NONE. */
        private int holderOf(int id, int state) {
            if (id < 0 || id >= places() || id >= MOST_PLACES) {
                return NONE;
            }
            int b = owners[id];
            return ofBuffer(b, ID) == id && ofBuffer(b, STATE) == state ? b : NONE;
        }

        int firstFetched() {
            int first = NONE;
            for (int i = 0; i < places(); i++) {
                int b = holderOf(i, IS_FETCHED);
                if (b != NONE && (first == NONE || b < first)) {
                    first = b;
                }
            }
            return first;
        }

        private int firstOpen() {
            int first = NONE;
            for (int i = 0; i < places() && i < MOST_PLACES; i++) {
                int b = owners[i];
                if (b != NONE && (first == NONE || b < first)) {
                    first = b;
                }
            }
            return first;
        }

        int use(int b, int n, boolean whole) {
            boolean ordered = hasFeature(WITH_ORDER);
            if (ofBuffer(b, STATE) != IS_FETCHED) {
                return NONE;
            }
            if (n < 0 || n > ofBuffer(b, CAPACITY)) {
                return -2;
            }
            if (whole ? !ordered : ordered && firstFetched() != b) {
                return -3;
            }
            if (marks[BROKEN] != 0) {
                return -4;
            }
            tellUsed(b, n);
            putBuffer(b, WRITTEN, n);
            int finished = moveUsed(b, whole);
            return whole ? finished : 0;
        }

        private void tellUsed(int b, int n) {
            int position = marks[USED];
            int place = placeOf(position);
            int id = ofBuffer(b, ID);
            if (isPacked()) {
                putDescriptor(0, place, n, wrapOf(position) ? AVAIL | DONE : 0, id);
            } else {
                putRow(place, ROW_USED, id);
                putRow(place, ROW_LENGTH, n);
            }
        }

        private int strideOf(int b) {
            return isPacked() ? ofBuffer(b, HELD) : 1;
        }

        /** How many are finished by that: the last one, and with the whole batch all that are ahead of it. */
        private int moveUsed(int last, boolean whole) {
            int finished = 0;
            for (int i = 0; i < places(); i++) {
                int b = holderOf(i, IS_FETCHED);
                if (b != NONE && (whole ? b <= last : b == last)) {
                    putBuffer(b, STATE, IS_FINISHED);
                    marks[USED] = moved(marks[USED], strideOf(b));
                    finished++;
                }
            }
            return finished;
        }

        // ---- the driver reaps

        int gather() {
            if (marks[UP_TO] == NONE) {
                int position = marks[TAKEN];
                int place = placeOf(position);
                boolean there = isPacked() ? isMarked(position, true) : position != marks[USED];
                if (!there) {
                    return NONE;
                }
                int b = holderOf(isPacked() ? cell(0, place, LINK) : rowAt(place, ROW_USED), IS_FINISHED);
                if (b == NONE) {
                    return -2;
                }
                marks[UP_TO] = b;
                marks[UP_TO_LENGTH] = isPacked() ? cell(0, place, LEN) : rowAt(place, ROW_LENGTH);
            }
            int reaped = hasFeature(WITH_ORDER) ? firstOpen() : marks[UP_TO];
            if (reaped == marks[UP_TO]) {
                marks[UP_TO] = NONE;
            }
            release(reaped);
            return reaped;
        }

        /** Of the latest reaped: told only if it was the one that the mark of use was about. */
        int lengthGathered() {
            return marks[UP_TO] == NONE ? marks[UP_TO_LENGTH] : NONE;
        }

        private void release(int b) {
            putBuffer(b, STATE, IS_REAPED);
            marks[TAKEN] = moved(marks[TAKEN], strideOf(b));
            marks[FREE] += ofBuffer(b, HELD);
            marks[OPEN]--;
            for (int i = 0; i < MOST_PLACES; i++) {
                if (owners[i] == b) {
                    owners[i] = NONE;
                }
            }
            for (int t = 1; t < TABLES; t++) {
                if (tableOwners[t] == b) {
                    tableOwners[t] = NONE;
                }
            }
        }

        // ---- notices

        int notifyDevice() {
            boolean sent = isNoticeDue(marks[KICKED_AT], marks[OFFERED], marks[DEVICE_EVENT], marks[DEVICE_HUSHES]);
            marks[KICKED_AT] = marks[OFFERED];
            marks[KICKS] += sent ? 1 : 0;
            return sent ? 1 : 0;
        }

        int notifyDriver() {
            boolean sent = isNoticeDue(marks[SIGNALLED_AT], marks[USED], marks[DRIVER_EVENT], marks[DRIVER_HUSHES]);
            marks[SIGNALLED_AT] = marks[USED];
            marks[SIGNALS] += sent ? 1 : 0;
            return sent ? 1 : 0;
        }

        private boolean isNoticeDue(int old, int now, int event, int hushed) {
            if (hasFeature(WITH_EVENT)) {
                return isPassed(event, old, now, wrapsAt());
            }
            return old != now && hushed == 0;
        }

        int tellEvent(int side, int n) {
            if (side != 0 && side != 1 || n < 0 || n >= wrapsAt()) {
                return NONE;
            }
            int event = moved(side == 1 ? marks[SEEN] : marks[TAKEN], n);
            marks[side == 1 ? DEVICE_EVENT : DRIVER_EVENT] = event;
            return event;
        }

        int tellHush(int side, int on) {
            if (side != 0 && side != 1 || on != 0 && on != 1) {
                return NONE;
            }
            marks[side == 1 ? DEVICE_HUSHES : DRIVER_HUSHES] = on;
            return 0;
        }

        // ---- reset

        /** How many were drained; their numbers come into the row. */
        int drainInto(int[] row) {
            int drained = 0;
            for (int b = 0; b < marks[BUFFERS]; b++) {
                if (ofBuffer(b, STATE) < IS_REAPED) {
                    putBuffer(b, STATE, IS_DRAINED);
                    if (drained < row.length) {
                        row[drained] = b;
                        drained++;
                    }
                }
            }
            clearTransport();
            return drained;
        }
    }

    /** A walk through the descriptors of a buffer, with what it opened and shut. */
    private static final class Walk {
        static final int NOT_THERE = 1;
        static final int AGAIN = 2;
        static final int NO_FEATURE = 3;
        static final int BAD_INDIRECT = 4;
        static final int BAD_TABLE = 5;
        static final int BAD_ORDER = 6;
        static final int NO_BUFFER = 7;

        // Table 0 and one inner table, each opened and shut.
        private final int[] acts = new int[4];
        private int actCount = 0;
        int reason = 0;
        int parts = 0;
        int capacity = 0;
        int load = 0;
        int places = 0;
        int lastLink = NONE;
        private int innerTable = NONE;
        private int innerSize = 0;
        private boolean wrote = false;

        int act(int i) {
            return i >= 0 && i < actCount && i < acts.length ? acts[i] : NONE;
        }

        /** From a descriptor (split) or a position (packed) on. */
        void go(Ring ring, int start) {
            actCount = 0;
            parts = 0;
            capacity = 0;
            load = 0;
            places = 0;
            lastLink = NONE;
            innerTable = NONE;
            wrote = false;
            note(1);
            reason = goOuter(ring, start);
            if (reason == 0 && innerTable != NONE) {
                note(innerTable * 10 + 1);
                reason = goInner(ring);
                note(innerTable * 10 + 2);
            }
            note(2);
        }

        private void note(int act) {
            if (actCount < acts.length) {
                acts[actCount] = act;
                actCount++;
            }
        }

        private int goOuter(Ring ring, int start) {
            boolean packed = ring.isPacked();
            int at = start;
            int visited = 0;
            for (int k = 0; k <= Ring.MOST_PLACES; k++) {
                boolean there = packed ? ring.isMarked(at, false) : at >= 0 && at < ring.places();
                if (!there) {
                    return NOT_THERE;
                }
                int place = packed ? ring.placeOf(at) : at;
                if ((visited >> place & 1) != 0) {
                    return AGAIN;
                }
                visited |= 1 << place;
                places++;
                lastLink = ring.cell(0, place, Ring.LINK);
                int flags = ring.cell(0, place, Ring.FLAGS);
                if ((flags & Ring.INDIRECT) != 0) {
                    return enterTable(ring, place, k == 0);
                }
                if (!isPartTaken(ring.cell(0, place, Ring.LEN), flags)) {
                    return BAD_ORDER;
                }
                if ((flags & Ring.NEXT) == 0) {
                    return 0;
                }
                at = packed ? ring.moved(at, 1) : lastLink;
            }
            return AGAIN;
        }

        /** An indirect one can only be the last of table 0: so the walk goes on in its table alone. */
        private int enterTable(Ring ring, int place, boolean first) {
            if (!ring.hasFeature(Ring.WITH_INDIRECT)) {
                return NO_FEATURE;
            }
            if (!first || (ring.cell(0, place, Ring.FLAGS) & Ring.NEXT) != 0) {
                return BAD_INDIRECT;
            }
            int len = ring.cell(0, place, Ring.LEN);
            int table = ring.isPacked() ? Ring.tableOfId(lastLink) : lastLink;
            boolean known = table >= 1 && table < Ring.TABLES;
            if (!known || len <= 0 || len > ring.sizeOf(table)) {
                return BAD_TABLE;
            }
            innerTable = table;
            innerSize = len;
            return 0;
        }

        private int goInner(Ring ring) {
            // The document tells the bound of N for each walk of a packed ring, not for that of table 0 alone.
            int most = ring.isPacked() ? ring.places() : Ring.MOST_PLACES;
            int at = 0;
            int visited = 0;
            for (int k = 0; k <= Ring.MOST_PLACES; k++) {
                if (at < 0 || at >= innerSize) {
                    return NOT_THERE;
                }
                if ((visited >> at & 1) != 0 || k >= most) {
                    return AGAIN;
                }
                visited |= 1 << at;
                int flags = ring.cell(innerTable, at, Ring.FLAGS);
                if ((flags & Ring.INDIRECT) != 0) {
                    return BAD_INDIRECT;
                }
                if (!isPartTaken(ring.cell(innerTable, at, Ring.LEN), flags)) {
                    return BAD_ORDER;
                }
                if ((flags & Ring.NEXT) == 0) {
                    return 0;
                }
                at = ring.cell(innerTable, at, Ring.LINK);
            }
            return AGAIN;
        }

        /** False, if it is to be read behind one to be written. */
        private boolean isPartTaken(int len, int flags) {
            boolean write = (flags & Ring.WRITE) != 0;
            if (wrote && !write) {
                return false;
            }
            wrote = write;
            parts++;
            capacity += write ? len : 0;
            load += write ? 0 : len;
            return true;
        }
    }

    /** Where the driver and the device of steps stand, and all numbers between them. */
    private static final class State {
        int driverAt = 0;
        int deviceAt = 0;
        int there = 0;
        int seen = 0;
        int event = 0;
        int looked = 0;
        int told = 0;
        int waits = 0;
        int sent = 0;

        void clear() {
            unpack(0);
        }

        // At most 8 steps of a driver keep every number below 16.
        int pack() {
            int low = driverAt | there << 4 | seen << 8 | event << 12;
            return low | looked << 16 | told << 20 | sent << 24 | deviceAt << 28 | waits << 31;
        }

        void unpack(int key) {
            driverAt = key & 15;
            there = key >>> 4 & 15;
            seen = key >>> 8 & 15;
            event = key >>> 12 & 15;
            looked = key >>> 16 & 15;
            told = key >>> 20 & 15;
            sent = key >>> 24 & 15;
            deviceAt = key >>> 28 & 7;
            waits = key >>> 31;
        }

        /** As played() numbers them. */
        int number(int what) {
            switch (what) {
                case 0:
                    return driverAt;
                case 1:
                    return deviceAt;
                case 2:
                    return there;
                case 3:
                    return seen;
                case 4:
                    return event;
                case 5:
                    return looked;
                case 6:
                    return told;
                case 7:
                    return waits;
                case 8:
                    return sent;
                default:
                    return NONE;
            }
        }
    }

    /** The steps of the driver and of the device. */
    private static final class Programs {
        static final int MOST_BYTES = 80;
        static final int MOST_DRIVER = 8;
        static final int MOST_DEVICE = 5;
        static final int TELL_WRAP = 16;

        static final int ADD = 1;
        static final int READ = 2;
        static final int TELL = 3;
        static final int KICK = 4;
        static final int DRAIN = 5;
        static final int ARM = 6;
        static final int AGAIN = 7;
        static final int SLEEP = 8;

        private final int[] driver = new int[MOST_DRIVER];
        private final int[] device = new int[MOST_DEVICE];
        // What is being read stands here, so that a fault leaves the others as they are.
        private final int[] fresh = new int[MOST_DRIVER];
        private int driverLength = 0;
        private int deviceLength = 0;

        int lengthOf(int side) {
            return side == 0 ? driverLength : deviceLength;
        }

        /** The place of the first fault (all stays then), or NONE. */
        int readFrom(Tape tape, int side) {
            if (tape.size > MOST_BYTES) {
                return MOST_BYTES;
            }
            int most = side == 0 ? MOST_DRIVER : MOST_DEVICE;
            tape.at = 0;
            for (int k = 0; k <= most; k++) {
                tape.skipBlanks();
                if (tape.isAtEnd()) {
                    take(side, k);
                    return NONE;
                }
                int fault = k < most ? readStep(tape, side, k) : tape.at;
                if (fault != NONE) {
                    return fault;
                }
            }
            return tape.at;
        }

        private int readStep(Tape tape, int side, int k) {
            int from = tape.at;
            tape.skipWord();
            int step = side == 0 ? driverStep(tape, from) : deviceStep(tape, from);
            if (step == NONE || k < 0 || k >= fresh.length) {
                return from;
            }
            fresh[k] = step;
            tape.skipBlanks();
            if (tape.peek() != ';') {
                return tape.at;
            }
            tape.at++;
            return NONE;
        }

        private static int driverStep(Tape tape, int from) {
            int to = tape.at;
            if (tape.isWord(from, to, "add")) {
                return ADD;
            }
            if (tape.isWord(from, to, "read")) {
                return READ;
            }
            if (tape.isWord(from, to, "tell")) {
                return TELL;
            }
            return tape.isWord(from, to, "kick") ? KICK : NONE;
        }

        private static int deviceStep(Tape tape, int from) {
            int to = tape.at;
            if (tape.isWord(from, to, "drain")) {
                return DRAIN;
            }
            if (tape.isWord(from, to, "arm")) {
                return ARM;
            }
            if (tape.isWord(from, to, "again")) {
                return AGAIN;
            }
            return tape.isWord(from, to, "sleep") ? SLEEP : NONE;
        }

        private void take(int side, int length) {
            if (side == 0) {
                System.arraycopy(fresh, 0, driver, 0, Math.min(length, MOST_DRIVER));
                driverLength = length;
            } else {
                System.arraycopy(fresh, 0, device, 0, Math.min(length, MOST_DEVICE));
                deviceLength = length;
            }
        }

        /** The step of that side is done, if it can be. */
        boolean go(State s, int side) {
            if (side == 0 && canDrive(s)) {
                drive(s);
                return true;
            }
            if (side == 1 && canServe(s)) {
                serve(s);
                return true;
            }
            return false;
        }

        boolean isMissed(State s) {
            return isDriven(s) && !canServe(s) && s.seen != s.there;
        }

        boolean isDriven(State s) {
            return s.driverAt >= driverLength;
        }

        private boolean canDrive(State s) {
            return s.driverAt >= 0 && s.driverAt < driverLength && s.driverAt < MOST_DRIVER;
        }

        private boolean canServe(State s) {
            boolean has = s.deviceAt >= 0 && s.deviceAt < deviceLength && s.deviceAt < MOST_DEVICE;
            return has && (device[s.deviceAt] != SLEEP || s.waits == 1);
        }

        private void drive(State s) {
            switch (driver[s.driverAt]) {
                case ADD:
                    s.there++;
                    break;
                case READ:
                    s.looked = s.event;
                    break;
                case TELL:
                    if (Ring.isPassed(s.looked, s.told, s.there, TELL_WRAP)) {
                        send(s);
                    }
                    s.told = s.there;
                    break;
                default:
                    send(s);
                    break;
            }
            s.driverAt++;
        }

        private static void send(State s) {
            s.waits = 1;
            s.sent++;
        }

        private void serve(State s) {
            boolean first = false;
            switch (device[s.deviceAt]) {
                case DRAIN:
                    s.seen = s.there;
                    break;
                case ARM:
                    s.event = s.seen;
                    break;
                case AGAIN:
                    first = s.seen != s.there;
                    break;
                default:
                    s.waits = 0;
                    break;
            }
            s.deviceAt = first || s.deviceAt + 1 >= deviceLength ? 0 : s.deviceAt + 1;
        }
    }

    /** All states that the two programs can come to, each by its first row of fewest steps. */
    private static final class Search {
        static final int LIMIT = 4000;
        static final int SLOTS = 8192;

        private final int[] keys = new int[LIMIT + 1];
        // Twice the state that it was come to from, and the side that stepped.
        private final int[] origins = new int[LIMIT + 1];
        // One more than the number of the state that stands here; 0: none.
        private final int[] slots = new int[SLOTS];
        private final State state = new State();
        private final byte[] path = new byte[LIMIT + 1];
        private int pathLength = 0;
        private int found = 0;
        private int firstMissed = NONE;
        int missedCount = 0;
        int fewestSent = 0;
        int mostSent = 0;
        boolean stale = true;

        boolean isTooLarge() {
            return found > LIMIT;
        }

        int stateCount() {
            return isTooLarge() ? NONE : found;
        }

        /** The driver's step first and states in the order they were found: so the first rows come first. */
        void run(Programs programs) {
            stale = false;
            Arrays.fill(slots, 0);
            found = 0;
            firstMissed = NONE;
            missedCount = 0;
            fewestSent = NONE;
            mostSent = NONE;
            add(0, NONE);
            for (int i = 0; i < found && i < LIMIT && !isTooLarge(); i++) {
                state.unpack(keys[i]);
                judge(programs, i);
                for (int side = 0; side <= 1; side++) {
                    state.unpack(keys[i]);
                    if (programs.go(state, side)) {
                        add(state.pack(), i * 2 + side);
                    }
                }
            }
        }

        private void judge(Programs programs, int i) {
            if (!programs.isDriven(state)) {
                return;
            }
            fewestSent = fewestSent == NONE ? state.sent : Math.min(fewestSent, state.sent);
            mostSent = Math.max(mostSent, state.sent);
            if (programs.isMissed(state)) {
                missedCount++;
                firstMissed = firstMissed == NONE ? i : firstMissed;
            }
        }

        private void add(int key, int origin) {
            int slot = key * 0x9E3779B1 >>> 19;
            for (int k = 0; k < SLOTS; k++) {
                int held = slots[slot] - 1;
                if (held < 0 || held >= keys.length) {
                    break;
                }
                if (keys[held] == key) {
                    return;
                }
                slot = slot + 1 & SLOTS - 1;
            }
            if (found <= LIMIT) {
                keys[found] = key;
                origins[found] = origin;
                found++;
                slots[slot] = found;
            }
        }

        /** How long the first row to a missed state is; it is kept for sideAt(). */
        int keepMissedPath() {
            if (isTooLarge() || firstMissed == NONE) {
                return NONE;
            }
            int length = 0;
            for (int origin = originOf(firstMissed); origin != NONE && length < LIMIT; origin = originOf(origin >> 1)) {
                length++;
            }
            int origin = originOf(firstMissed);
            for (int k = length - 1; k >= 0; k--) {
                path[k] = (byte) (origin & 1);
                origin = originOf(origin >> 1);
            }
            pathLength = length;
            return length;
        }

        private int originOf(int i) {
            return i >= 0 && i < found && i < origins.length ? origins[i] : NONE;
        }

        int sideAt(int i) {
            return i >= 0 && i < pathLength && i < path.length ? path[i] : NONE;
        }
    }
}
