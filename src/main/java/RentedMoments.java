public final class RentedMoments {
    public static final int UNKNOWN = -1;
    public static final int BAD_VALUE = -2;
    public static final int FULL = -3;
    public static final int NOT_POSSIBLE = -4;
    public static final int NONE = -5;
    public static final int CONFLICT = -6;

    private static final int CELLS = 12;
    private static final int MOST_VALUE = 9999;
    private static final int MOST_OLD_VERSIONS = 40;
    private static final int MOST_READERS = 40;
    private static final int MOST_OPEN = 8;
    private static final int MOST_COINS = 9999;
    private static final int FIRST_RENT = 4;
    private static final int MOST_RENT = 99;
    private static final int MOST_TERM = 20;
    private static final int MOST_TICKS = 60;
    private static final int FAR_TICKS = 200;
    private static final int MOST_SIGNS = 60;
    private static final int MOST_CELL_DIGITS = 2;
    private static final int MOST_VALUE_DIGITS = 4;
    private static final int MOST_STATES = 4;
    private static final int FAULT_BASE = -100;

    // Every old version of a cell is seen by an open reader, and each of those sees just one;
    // the newest is one more, and one more stands there while a commit pushes a new one.
    private static final int MOST_PLACES = MOST_OPEN + 2;
    private static final int NEWEST = 0;
    private static final int NOWHERE = -1;

    // The shortest write with its ";" takes four characters.
    private static final int MOST_WRITES = MOST_SIGNS / 4 + 1;
    private static final int NO_FAULT = -1;

    private static final int OPEN = 0;
    private static final int COMMITTED = 1;
    private static final int CLOSED = 2;
    private static final int EVICTED = 3;
    private static final int NOBODY = -1;

    // All rows are made once, so that no later call makes an object.
    private final State now;
    private final State ahead;
    private final State snapshot;
    private final History history;
    private final WriteText text;
    private boolean hasSnapshot;

    public RentedMoments() {
        now = new State();
        ahead = new State();
        snapshot = new State();
        history = new History();
        text = new WriteText();
    }

    // ---- readers

    public int open(int coins) {
        if (coins < 0 || coins > MOST_COINS) {
            return BAD_VALUE;
        }
        if (now.readersBeen >= MOST_READERS || now.readersIn(OPEN) >= MOST_OPEN) {
            return FULL;
        }
        history.record(now);
        return now.addReader(coins);
    }

    public int pay(int reader, int coins) {
        if (!now.hasReader(reader)) {
            return UNKNOWN;
        }
        if (coins < 1 || coins > MOST_COINS) {
            return BAD_VALUE;
        }
        Reader payer = now.readers[reader];
        if (!payer.isOpen()) {
            return NOT_POSSIBLE;
        }
        if (payer.purse + coins > MOST_COINS) {
            return FULL;
        }
        history.record(now);
        payer.purse += coins;
        return payer.purse;
    }

    public int widow(int reader, int ticks) {
        if (!now.hasReader(reader)) {
            return UNKNOWN;
        }
        if (ticks < 1 || ticks > MOST_TERM) {
            return BAD_VALUE;
        }
        Reader bereft = now.readers[reader];
        if (!bereft.isOpen() || bereft.wasWidow) {
            return NOT_POSSIBLE;
        }
        history.record(now);
        int dueUntilNow = now.dueOf(bereft);
        bereft.wasWidow = true;
        bereft.term = ticks;
        return dueUntilNow;
    }

    public int close(int reader) {
        if (!now.hasReader(reader)) {
            return UNKNOWN;
        }
        Reader leaver = now.readers[reader];
        if (!leaver.isOpen()) {
            return NOT_POSSIBLE;
        }
        history.record(now);
        leaver.state = CLOSED;
        return now.removeUnseen();
    }

    public int setRent(int coins) {
        if (coins < 0 || coins > MOST_RENT) {
            return BAD_VALUE;
        }
        int previous = now.rent;
        if (coins == previous) {
            return NONE;
        }
        history.record(now);
        now.rent = coins;
        return previous;
    }

    public int forbidSkew(boolean is) {
        if (is == now.skewForbidden) {
            return NONE;
        }
        history.record(now);
        now.skewForbidden = is;
        return now.pairsInSkew();
    }

    public int tick(int ticks) {
        if (ticks < 1 || ticks > MOST_TICKS) {
            return BAD_VALUE;
        }
        history.record(now);
        int evictedBefore = now.readersIn(EVICTED);
        now.letTicksPass(ticks, NOBODY);
        return now.readersIn(EVICTED) - evictedBefore;
    }

    // ---- cells

    public int read(int reader, int cell) {
        if (!now.hasReader(reader) || !isCell(cell)) {
            return UNKNOWN;
        }
        Reader looker = now.readers[reader];
        if (!looker.isOpen()) {
            return NOT_POSSIBLE;
        }
        history.record(now);
        if (looker.hasWrite(cell)) {
            return looker.writes[cell];
        }
        looker.readCells |= 1 << cell;
        return now.cells[cell].valueSeenAt(looker.moment);
    }

    public int write(int reader, int cell, int value) {
        if (!now.hasReader(reader) || !isCell(cell)) {
            return UNKNOWN;
        }
        if (value < 0 || value > MOST_VALUE) {
            return BAD_VALUE;
        }
        Reader writer = now.readers[reader];
        if (!writer.isOpen()) {
            return NOT_POSSIBLE;
        }
        history.record(now);
        writer.putWrite(cell, value);
        return writer.numberOfWrites();
    }

    public int commit(int reader) {
        if (!now.hasReader(reader)) {
            return UNKNOWN;
        }
        Reader committer = now.readers[reader];
        if (!committer.isOpen()) {
            return NOT_POSSIBLE;
        }
        if (now.hasConflict(committer)) {
            return CONFLICT;
        }
        if (now.skewForbidden && now.skewsOf(committer) > 0) {
            return NOT_POSSIBLE;
        }
        if (now.oldVersionsWithout(reader) > MOST_OLD_VERSIONS) {
            return FULL;
        }
        history.record(now);
        now.land(reader);
        return now.moment;
    }

    // ---- texts

    public int type(char character) {
        if (text.length >= MOST_SIGNS) {
            return FULL;
        }
        text.add(character);
        return text.length;
    }

    public int clearText() {
        int had = text.length;
        text.length = 0;
        return had;
    }

    public int readWrites(int reader) {
        if (!now.hasReader(reader)) {
            return UNKNOWN;
        }
        int fault = text.parse();
        if (fault != NO_FAULT) {
            return FAULT_BASE - fault;
        }
        if (text.greatestCell() >= CELLS) {
            return UNKNOWN;
        }
        Reader writer = now.readers[reader];
        if (!writer.isOpen()) {
            return NOT_POSSIBLE;
        }
        history.record(now);
        for (int i = 0; i < text.writes; i++) {
            writer.putWrite(text.cells[i], text.values[i]);
        }
        return writer.numberOfWrites();
    }

    // ---- history

    public int undo() {
        if (history.length == 0) {
            return NONE;
        }
        history.bringBack(now);
        return history.length;
    }

    public int keep() {
        snapshot.copyFrom(now);
        hasSnapshot = true;
        return now.moment;
    }

    public int restore() {
        if (!hasSnapshot) {
            return NONE;
        }
        history.record(now);
        now.copyFrom(snapshot);
        return now.moment;
    }

    // ---- what is told

    public int cell(int cell, int what) {
        if (!isCell(cell)) {
            return UNKNOWN;
        }
        Cell told = now.cells[cell];
        switch (what) {
            case 0: return told.values[NEWEST];
            case 1: return told.moments[NEWEST];
            case 2: return told.places;
            case 3: return now.seersOf(told, NEWEST);
            case 4: return now.writersOf(cell);
            default: return BAD_VALUE;
        }
    }

    public int version(int cell, int place, int what) {
        if (!isCell(cell)) {
            return UNKNOWN;
        }
        if (place < 0 || what < 0 || what > 4) {
            return BAD_VALUE;
        }
        Cell told = now.cells[cell];
        if (place >= told.places) {
            return NONE;
        }
        switch (what) {
            case 0: return told.values[place];
            case 1: return told.moments[place];
            case 2: return now.seersOf(told, place);
            case 3: return now.payersOf(told, place);
            default: return now.shareOf(told, place);
        }
    }

    public int reader(int reader, int what) {
        if (!now.hasReader(reader)) {
            return UNKNOWN;
        }
        Reader told = now.readers[reader];
        switch (what) {
            case 0: return told.state;
            case 1: return told.moment;
            case 2: return told.purse;
            case 3: return now.dueOf(told);
            case 4: return told.readCells;
            case 5: return told.writtenCells;
            case 6: return told.term;
            case 7: return told.paid;
            case 8: return told.isOpen() ? now.oldVersionsSeenBy(told) : 0;
            case 9: return told.isOpen() ? now.sumSeenBy(told) : 0;
            case 10: return told.isOpen() && now.hasConflict(told) ? 1 : 0;
            case 11: return told.isOpen() ? now.skewsOf(told) : 0;
            default: return BAD_VALUE;
        }
    }

    public int lasts(int reader) {
        if (!now.hasReader(reader)) {
            return UNKNOWN;
        }
        if (!now.readers[reader].isOpen()) {
            return NOT_POSSIBLE;
        }
        ahead.copyFrom(now);
        ahead.letTicksPass(FAR_TICKS, reader);
        return ahead.readers[reader].isOpen() ? NONE : ahead.tickNumber - now.tickNumber;
    }

    public int committed(int commit, int what) {
        if (commit < 0 || commit >= now.commitsMade) {
            return UNKNOWN;
        }
        Commit told = now.commits[commit];
        switch (what) {
            case 0: return told.reader;
            case 1: return told.readerMoment;
            case 2: return told.madeMoment;
            case 3: return told.writtenCells;
            case 4: return told.readCells;
            case 5: return told.skews;
            default: return BAD_VALUE;
        }
    }

    public int count(int what) {
        switch (what) {
            case 0: return now.moment;
            case 1: return now.tickNumber;
            case 2: return now.readersBeen;
            case 3: return now.readersIn(OPEN);
            case 4: return now.readersIn(COMMITTED);
            case 5: return now.readersIn(CLOSED);
            case 6: return now.readersIn(EVICTED);
            case 7: return now.oldVersions();
            case 8: return now.removedVersions;
            case 9: return now.rent;
            case 10: return now.coinsPaid();
            case 11: return now.commitsMade;
            case 12: return now.pairsInSkew();
            case 13: return now.skewForbidden ? 1 : 0;
            case 14: return now.openWidows();
            case 15: return history.length;
            case 16: return text.length;
            default: return BAD_VALUE;
        }
    }

    private static boolean isCell(int cell) {
        return cell >= 0 && cell < CELLS;
    }

    /** The versions of one cell that are kept, the newest at place 0. */
    private static final class Cell {
        private final int[] values = new int[MOST_PLACES];
        private final int[] moments = new int[MOST_PLACES];
        private int places = 1;

        void copyFrom(Cell other) {
            System.arraycopy(other.values, 0, values, 0, MOST_PLACES);
            System.arraycopy(other.moments, 0, moments, 0, MOST_PLACES);
            places = other.places;
        }

        int placeSeenAt(int moment) {
            for (int place = 0; place < places; place++) {
                if (moments[place] <= moment) {
                    return place;
                }
            }
            return NOWHERE;
        }

        int valueSeenAt(int moment) {
            int place = placeSeenAt(moment);
            return place == NOWHERE ? 0 : values[place];
        }

        void push(int value, int moment) {
            if (places < MOST_PLACES) {
                places++;
            }
            System.arraycopy(values, 0, values, 1, places - 1);
            System.arraycopy(moments, 0, moments, 1, places - 1);
            values[NEWEST] = value;
            moments[NEWEST] = moment;
        }

        /** Removes the old versions whose bits are not set; tells how many these were. */
        int retainOld(int seenPlaces) {
            int left = NEWEST + 1;
            for (int place = NEWEST + 1; place < places; place++) {
                if ((seenPlaces >> place & 1) != 0) {
                    values[left] = values[place];
                    moments[left] = moments[place];
                    left++;
                }
            }
            int removed = places - left;
            places = left;
            return removed;
        }
    }

    private static final class Reader {
        private final int[] writes = new int[CELLS];
        private int state;
        private int moment;
        private int purse;
        private int readCells;
        private int writtenCells;
        private int term;
        private int paid;
        private boolean wasWidow;

        /** An undone reader may have left its traces here: all of them are wiped, but hidden writes. */
        void begin(int presentMoment, int coins) {
            state = OPEN;
            moment = presentMoment;
            purse = coins;
            readCells = 0;
            writtenCells = 0;
            term = 0;
            paid = 0;
            wasWidow = false;
        }

        void copyFrom(Reader other) {
            System.arraycopy(other.writes, 0, writes, 0, CELLS);
            state = other.state;
            moment = other.moment;
            purse = other.purse;
            readCells = other.readCells;
            writtenCells = other.writtenCells;
            term = other.term;
            paid = other.paid;
            wasWidow = other.wasWidow;
        }

        boolean isOpen() {
            return state == OPEN;
        }

        boolean isOpenWidow() {
            return state == OPEN && term > 0;
        }

        boolean paysRent() {
            return state == OPEN && term == 0;
        }

        boolean hasWrite(int cell) {
            return (writtenCells >> cell & 1) != 0;
        }

        void putWrite(int cell, int value) {
            writes[cell] = value;
            writtenCells |= 1 << cell;
        }

        int numberOfWrites() {
            return Integer.bitCount(writtenCells);
        }
    }

    /** A commit that wrote. */
    private static final class Commit {
        private int reader;
        private int readerMoment;
        private int madeMoment;
        private int writtenCells;
        private int readCells;
        private int skews;

        void copyFrom(Commit other) {
            reader = other.reader;
            readerMoment = other.readerMoment;
            madeMoment = other.madeMoment;
            writtenCells = other.writtenCells;
            readCells = other.readCells;
            skews = other.skews;
        }

        /** The moment that a later commit makes is greater than this one's reader's: not asked. */
        boolean isInSkewWithLater(Reader later) {
            return later.moment < madeMoment
                && (later.readCells & writtenCells) != 0
                && (readCells & later.writtenCells) != 0
                && (writtenCells & later.writtenCells) == 0;
        }
    }

    /** All that undo() and restore() bring back. */
    private static final class State {
        private final Cell[] cells = new Cell[CELLS];
        private final Reader[] readers = new Reader[MOST_READERS];
        private final Commit[] commits = new Commit[MOST_READERS];
        private int moment;
        private int tickNumber;
        private int rent = FIRST_RENT;
        private int readersBeen;
        private int commitsMade;
        private int removedVersions;
        private boolean skewForbidden;

        // Only used within a tick: no part of the state.
        private final int[] dues = new int[MOST_READERS];

        State() {
            for (int i = 0; i < CELLS; i++) {
                cells[i] = new Cell();
            }
            for (int i = 0; i < MOST_READERS; i++) {
                readers[i] = new Reader();
                commits[i] = new Commit();
            }
        }

        void copyFrom(State other) {
            for (int i = 0; i < CELLS; i++) {
                cells[i].copyFrom(other.cells[i]);
            }
            for (int i = 0; i < other.readersBeen; i++) {
                readers[i].copyFrom(other.readers[i]);
            }
            for (int i = 0; i < other.commitsMade; i++) {
                commits[i].copyFrom(other.commits[i]);
            }
            moment = other.moment;
            tickNumber = other.tickNumber;
            rent = other.rent;
            readersBeen = other.readersBeen;
            commitsMade = other.commitsMade;
            removedVersions = other.removedVersions;
            skewForbidden = other.skewForbidden;
        }

        // ---- readers

        boolean hasReader(int number) {
            return number >= 0 && number < readersBeen;
        }

        int addReader(int coins) {
            int number = readersBeen;
            readers[number].begin(moment, coins);
            readersBeen++;
            return number;
        }

        int readersIn(int wanted) {
            int found = 0;
            for (int i = 0; i < readersBeen; i++) {
                if (readers[i].state == wanted) {
                    found++;
                }
            }
            return found;
        }

        int openWidows() {
            int found = 0;
            for (int i = 0; i < readersBeen; i++) {
                if (readers[i].isOpenWidow()) {
                    found++;
                }
            }
            return found;
        }

        int coinsPaid() {
            int coins = 0;
            for (int i = 0; i < readersBeen; i++) {
                coins += readers[i].paid;
            }
            return coins;
        }

        int writersOf(int cell) {
            int found = 0;
            for (int i = 0; i < readersBeen; i++) {
                if (readers[i].isOpen() && readers[i].hasWrite(cell)) {
                    found++;
                }
            }
            return found;
        }

        // ---- versions

        int seersOf(Cell cell, int place) {
            int found = 0;
            for (int i = 0; i < readersBeen; i++) {
                Reader reader = readers[i];
                if (reader.isOpen() && cell.placeSeenAt(reader.moment) == place) {
                    found++;
                }
            }
            return found;
        }

        int payersOf(Cell cell, int place) {
            int found = 0;
            for (int i = 0; i < readersBeen; i++) {
                Reader reader = readers[i];
                if (reader.paysRent() && cell.placeSeenAt(reader.moment) == place) {
                    found++;
                }
            }
            return found;
        }

        /** The places, as bits, that open readers see, the one with this number left aside. */
        int placesSeen(Cell cell, int leftAside) {
            int seen = 0;
            for (int i = 0; i < readersBeen; i++) {
                if (i != leftAside && readers[i].isOpen()) {
                    int place = cell.placeSeenAt(readers[i].moment);
                    if (place != NOWHERE) {
                        seen |= 1 << place;
                    }
                }
            }
            return seen;
        }

        int oldVersions() {
            int old = 0;
            for (int i = 0; i < CELLS; i++) {
                old += cells[i].places - 1;
            }
            return old;
        }

        int oldVersionsSeenBy(Reader reader) {
            int old = 0;
            for (int i = 0; i < CELLS; i++) {
                if (cells[i].placeSeenAt(reader.moment) > NEWEST) {
                    old++;
                }
            }
            return old;
        }

        int sumSeenBy(Reader reader) {
            int sum = 0;
            for (int i = 0; i < CELLS; i++) {
                sum += cells[i].valueSeenAt(reader.moment);
            }
            return sum;
        }

        int removeUnseen() {
            int removed = 0;
            for (int i = 0; i < CELLS; i++) {
                removed += cells[i].retainOld(placesSeen(cells[i], NOBODY));
            }
            removedVersions += removed;
            return removed;
        }

        // ---- rent and ticks

        int shareOf(Cell cell, int place) {
            if (place <= NEWEST) {
                return 0;
            }
            int payers = payersOf(cell, place);
            return payers == 0 ? 0 : (rent + payers - 1) / payers;
        }

        int dueOf(Reader reader) {
            if (!reader.paysRent()) {
                return 0;
            }
            int due = 0;
            for (int i = 0; i < CELLS; i++) {
                due += shareOf(cells[i], cells[i].placeSeenAt(reader.moment));
            }
            return due;
        }

        void tellDues() {
            for (int i = 0; i < readersBeen; i++) {
                dues[i] = dueOf(readers[i]);
            }
        }

        /** Ends early when the reader of the number watched is not open any more. */
        void letTicksPass(int ticks, int watched) {
            boolean duesChange = true;
            for (int i = 0; i < ticks; i++) {
                // Between evictions and ends of terms all dues stay the same.
                if (duesChange) {
                    tellDues();
                }
                boolean someoneGoes = takeDues();
                boolean someTermEnds = shortenTerms();
                if (someoneGoes) {
                    removeUnseen();
                }
                duesChange = someoneGoes || someTermEnds;
                tickNumber++;
                if (hasReader(watched) && !readers[watched].isOpen()) {
                    return;
                }
            }
        }

        /** Tells whether a reader is evicted. */
        boolean takeDues() {
            boolean someoneGoes = false;
            for (int i = 0; i < readersBeen; i++) {
                Reader reader = readers[i];
                if (reader.paysRent()) {
                    if (reader.purse >= dues[i]) {
                        reader.purse -= dues[i];
                        reader.paid += dues[i];
                    } else {
                        reader.state = EVICTED;
                        someoneGoes = true;
                    }
                }
            }
            return someoneGoes;
        }

        /** Tells whether a term ends. */
        boolean shortenTerms() {
            boolean someTermEnds = false;
            for (int i = 0; i < readersBeen; i++) {
                Reader reader = readers[i];
                if (reader.isOpenWidow()) {
                    reader.term--;
                    someTermEnds = someTermEnds || reader.term == 0;
                }
            }
            return someTermEnds;
        }

        // ---- commits

        boolean hasConflict(Reader reader) {
            for (int i = 0; i < CELLS; i++) {
                if (reader.hasWrite(i) && cells[i].moments[NEWEST] > reader.moment) {
                    return true;
                }
            }
            return false;
        }

        /** A reader without writes shares no cell with what others have read: it has no skews. */
        int skewsOf(Reader reader) {
            int skews = 0;
            for (int i = 0; i < commitsMade; i++) {
                if (commits[i].isInSkewWithLater(reader)) {
                    skews++;
                }
            }
            return skews;
        }

        int pairsInSkew() {
            int pairs = 0;
            for (int i = 0; i < commitsMade; i++) {
                pairs += commits[i].skews;
            }
            return pairs;
        }

        /** The old versions that would be kept after this reader's commit. */
        int oldVersionsWithout(int committer) {
            int old = 0;
            for (int i = 0; i < CELLS; i++) {
                int seen = placesSeen(cells[i], committer);
                boolean newestGetsOld = readers[committer].hasWrite(i);
                old += Integer.bitCount(newestGetsOld ? seen : seen & ~(1 << NEWEST));
            }
            return old;
        }

        void land(int number) {
            Reader committer = readers[number];
            if (committer.writtenCells != 0) {
                noteCommit(number);
                moment++;
                pushWrites(committer);
            }
            committer.state = COMMITTED;
            removeUnseen();
        }

        private void noteCommit(int number) {
            // A reader commits once: with as many rows as readers there is always one left.
            if (commitsMade >= MOST_READERS) {
                return;
            }
            Reader committer = readers[number];
            Commit commit = commits[commitsMade];
            commit.reader = number;
            commit.readerMoment = committer.moment;
            commit.madeMoment = moment + 1;
            commit.writtenCells = committer.writtenCells;
            commit.readCells = committer.readCells;
            commit.skews = skewsOf(committer);
            commitsMade++;
        }

        private void pushWrites(Reader committer) {
            for (int i = 0; i < CELLS; i++) {
                if (committer.hasWrite(i)) {
                    cells[i].push(committer.writes[i], moment);
                }
            }
        }
    }

    private static final class History {
        private final State[] states = new State[MOST_STATES];
        private int length;

        History() {
            for (int i = 0; i < MOST_STATES; i++) {
                states[i] = new State();
            }
        }

        void record(State state) {
            if (length >= MOST_STATES) {
                dropOldest();
            }
            states[length].copyFrom(state);
            length++;
        }

        /** The dropped one's rows become the last place's. */
        private void dropOldest() {
            State oldest = states[0];
            for (int i = 1; i < MOST_STATES; i++) {
                states[i - 1] = states[i];
            }
            states[MOST_STATES - 1] = oldest;
            length = MOST_STATES - 1;
        }

        void bringBack(State state) {
            if (length > 0) {
                length--;
                state.copyFrom(states[length]);
            }
        }
    }

    /** The text, and the writes that were found in it when it was last parsed without a fault. */
    private static final class WriteText {
        private final char[] signs = new char[MOST_SIGNS];
        private int length;
        private final int[] cells = new int[MOST_WRITES];
        private final int[] values = new int[MOST_WRITES];
        private int writes;

        void add(char sign) {
            if (length < MOST_SIGNS) {
                signs[length] = sign;
                length++;
            }
        }

        /** Tells the fault of the text, or NO_FAULT. */
        int parse() {
            int at = 0;
            for (int i = 0; i < MOST_WRITES; i++) {
                int cellEnd = endOfNumber(at, MOST_CELL_DIGITS);
                if (cellEnd == at || !isSign(cellEnd, '=')) {
                    return cellEnd;
                }
                int valueAt = cellEnd + 1;
                int valueEnd = endOfNumber(valueAt, MOST_VALUE_DIGITS);
                if (valueEnd == valueAt) {
                    return valueEnd;
                }
                cells[i] = number(at, cellEnd);
                values[i] = number(valueAt, valueEnd);
                writes = i + 1;
                if (valueEnd >= length) {
                    return NO_FAULT;
                }
                if (!isSign(valueEnd, ';')) {
                    return valueEnd;
                }
                at = valueEnd + 1;
            }
            return length;
        }

        int greatestCell() {
            int greatest = 0;
            for (int i = 0; i < writes; i++) {
                greatest = Math.max(greatest, cells[i]);
            }
            return greatest;
        }

        private boolean isSign(int at, char sign) {
            return at < length && signs[at] == sign;
        }

        private boolean isDigit(int at) {
            return at < length && signs[at] >= '0' && signs[at] <= '9';
        }

        /** The index behind the number that begins here, or this one if none does. */
        private int endOfNumber(int from, int mostDigits) {
            // No digit may follow a zero in front.
            int most = isSign(from, '0') ? 1 : mostDigits;
            int end = from;
            while (end - from < most && isDigit(end)) {
                end++;
            }
            return end;
        }

        private int number(int from, int to) {
            int number = 0;
            for (int i = from; i < to; i++) {
                number = number * 10 + (signs[i] - '0');
            }
            return number;
        }
    }
}
