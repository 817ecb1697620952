/**
 * The firmware of a ticket printer on a tram, with a journal in flash blocks
 * that stays readable whenever the power is cut. What each method promises
 * stands in shared/DOC.md.
 */
public final class TicketJournal {
    public static final int BAD = -1, STATE = -2, OUT = -3, CUT = -4, NONE = -9;

    private static final int FINE = 0;

    private static final int BLOCKS = 5, WORDS = 22, HEADER = 6;
    private static final int PLACES = 4, RECORD = 4;
    private static final int ERASED = 65535, MODULUS = 65521;
    /** So many numbers of records, and of blocks, there are before 0 comes again. */
    private static final int NUMBERS = 10000;

    private static final int TICKET = 0, CANCELLATION = 1, CLOCK_STEP = 2, CLOSE = 3, PAPER = 4;
    private static final int EMPTY = 0, WHOLE = 1, TORN = 2;
    private static final int NUMBER = 0, KIND = 1, TIME = 2, VALUE = 3, BLOCK = 4, PLACE = 5, DETAILS = 6;

    private static final int SORTS = 4, SORT_FACTOR = 1000, MOST_PRICE = 999;
    private static final int MOST_SUM = 60000, MOST_TIME = 60000, MOST_PAPER = 50000;
    private static final int MOST_MINUTES = 5000, LEAST_STEP = 5;
    private static final int MOST_CUT = 100, MOST_TRIED_CUT = 30;
    private static final int IMAGES = 2, STATES = 8;

    private final Printer present = new Printer();
    private final Printer trial = new Printer();
    private final Journal journal = new Journal();
    private final Past past = new Past();
    private final Image[] images = new Image[IMAGES];

    public TicketJournal() {
        for (int i = 0; i < images.length; i++) {
            images[i] = new Image();
        }
    }

    // what is done with the printer

    public int sell(int sort) {
        int refusal = present.refusalOf(sort);
        if (refusal != FINE) {
            return refusal;
        }
        past.remember(present);
        return present.issueTicket(sort);
    }

    public int cancel() {
        if (!present.on || !present.endsWithTicket()) {
            return STATE;
        }
        past.remember(present);
        return present.cancelLatest();
    }

    public int close() {
        if (!present.on) {
            return STATE;
        }
        past.remember(present);
        return present.closeDay();
    }

    public int load(int told, int there) {
        if (!isWithin(told, 0, MOST_PAPER) || !isWithin(there, 0, MOST_PAPER)) {
            return BAD;
        }
        if (!present.on) {
            return STATE;
        }
        past.remember(present);
        return present.putInPaper(told, there);
    }

    public int setClock(int time) {
        if (!isWithin(time, 0, MOST_TIME)) {
            return BAD;
        }
        if (!present.on) {
            return STATE;
        }
        past.remember(present);
        return present.moveClock(time);
    }

    public int pass(int minutes) {
        if (!isWithin(minutes, 1, MOST_MINUTES)) {
            return BAD;
        }
        past.remember(present);
        present.time = Math.min(present.time + minutes, MOST_TIME);
        return present.time;
    }

    public int setPrice(int sort, int price) {
        if (!isSort(sort) || !isWithin(price, 1, MOST_PRICE)) {
            return BAD;
        }
        past.remember(present);
        int previous = present.priceOf(sort);
        present.changePrice(sort, price);
        return previous;
    }

    public int cut(int operations) {
        if (!isWithin(operations, -1, MOST_CUT)) {
            return BAD;
        }
        past.remember(present);
        int previous = present.flash.left;
        present.flash.left = operations < 0 ? NONE : operations;
        return previous;
    }

    public int off() {
        if (!present.on) {
            return STATE;
        }
        past.remember(present);
        present.losePower();
        return present.flash.tally(WHOLE);
    }

    public int start() {
        if (present.on) {
            return STATE;
        }
        past.remember(present);
        present.wake();
        return present.memory.number;
    }

    public int undo() {
        if (past.size == 0) {
            return STATE;
        }
        past.restore(present);
        return past.size;
    }

    // what is told

    public int told(int what) {
        switch (what) {
            case 0: return present.on ? 1 : 0;
            case 1: return present.time;
            case 8: return present.there;
            case 9: return present.printed;
            case 10: return present.flash.done;
            case 11: return present.flash.left;
            case 12: return past.size;
            default: return isWithin(what, 2, 7) ? knownNumber(what) : BAD;
        }
    }

    private int knownNumber(int what) {
        if (!present.on) {
            return NONE;
        }
        switch (what) {
            case 2: return present.memory.number;
            case 3: return present.memory.sum;
            case 4: return present.memory.tickets;
            case 5: return present.memory.paper;
            case 6: return present.memory.current;
            default: return present.memory.next;
        }
    }

    public int price(int sort) {
        return isSort(sort) ? present.priceOf(sort) : BAD;
    }

    public int word(int block, int k) {
        return isBlock(block) && isWithin(k, 0, WORDS - 1) ? present.flash.read(block, k) : BAD;
    }

    public int block(int block, int what) {
        if (!isBlock(block)) {
            return BAD;
        }
        Flash flash = present.flash;
        switch (what) {
            case 0: return flash.isWhole(block) ? 1 : 0;
            case 1: return flash.isWhole(block) ? flash.read(block, 0) : NONE;
            case 2: return flash.tallyIn(block, WHOLE);
            case 3: return flash.tallyIn(block, TORN);
            case 4: return flash.erasuresOf(block);
            default: return BAD;
        }
    }

    // reading the journal

    public int records(int kind) {
        switch (kind) {
            case -2: return present.flash.tally(TORN);
            case -1: return present.flash.tally(WHOLE);
            default: return isWithin(kind, TICKET, PAPER) ? journal.gather(present.flash).countOf(kind) : BAD;
        }
    }

    public int record(int k, int what) {
        if (k < 0 || !isWithin(what, NUMBER, PLACE)) {
            return BAD;
        }
        return journal.gather(present.flash).detail(k, what);
    }

    public int takings(int sort) {
        if (sort != -1 && !isSort(sort)) {
            return BAD;
        }
        Journal read = journal.gather(present.flash);
        return read.pricesOf(TICKET, sort) - read.pricesOf(CANCELLATION, sort);
    }

    public float mean() {
        Journal read = journal.gather(present.flash);
        int tickets = read.countOf(TICKET);
        return tickets == 0 ? 0.0f : (float) read.pricesOf(TICKET, -1) / (float) tickets;
    }

    public int times(int what) {
        switch (what) {
            case 0: return journal.gather(present.flash).stepsBack();
            case 1: return journal.gather(present.flash).greatestStep();
            case 2: return journal.gather(present.flash).numberGaps();
            default: return BAD;
        }
    }

    // what if

    public int operations(int sort) {
        int refusal = present.refusalOf(sort);
        if (refusal != FINE) {
            return refusal;
        }
        trySale(sort, NONE);
        return trial.flash.done - present.flash.done;
    }

    public int after(int sort, int operations, int what) {
        if (!isWithin(operations, 0, MOST_TRIED_CUT) || !isWithin(what, 0, 4)) {
            return BAD;
        }
        int refusal = present.refusalOf(sort);
        if (refusal != FINE) {
            return refusal;
        }
        trySale(sort, operations);
        if (!trial.on) {
            trial.wake();
        }
        switch (what) {
            case 0: return trial.flash.tally(WHOLE);
            case 1: return trial.flash.tally(TORN);
            case 2: return trial.memory.number;
            case 3: return trial.memory.sum;
            default: return trial.memory.current;
        }
    }

    public int needed(int sort) {
        int refusal = present.refusalOf(sort);
        if (refusal != FINE) {
            return refusal;
        }
        // Whatever is written behind the ticket stands in other places, or in
        // the next block: it leaves the ticket whole.
        return present.memory.next == PLACES ? 1 + HEADER + RECORD : RECORD;
    }

    private void trySale(int sort, int left) {
        trial.copyFrom(present);
        trial.flash.left = left;
        trial.issueTicket(sort);
    }

    // images

    public int keep(int i) {
        if (!isImage(i)) {
            return BAD;
        }
        images[i].store(present);
        return present.flash.tally(WHOLE);
    }

    public int back(int i) {
        if (!isImage(i)) {
            return BAD;
        }
        if (!images[i].filled) {
            return STATE;
        }
        past.remember(present);
        present.copyFrom(images[i].state);
        return present.flash.tally(WHOLE);
    }

    private boolean isImage(int i) {
        return i >= 0 && i < images.length && images[i] != null;
    }

    private static boolean isWithin(int number, int least, int most) {
        return number >= least && number <= most;
    }

    private static boolean isSort(int sort) {
        return isWithin(sort, 0, SORTS - 1);
    }

    private static boolean isBlock(int block) {
        return isWithin(block, 0, BLOCKS - 1);
    }

    private static int lengthOf(int sort) {
        return 40 + 20 * sort;
    }

    /** The check of a block that begins with the five words a to e. */
    private static int headerCheck(int a, int b, int c, int d, int e) {
        return (3 * a + 5 * b + 7 * c + 11 * d + 13 * e + 1) % MODULUS;
    }

    /** The check of a record with the three words a to c, in a block with a sequence number. */
    private static int recordCheck(int a, int b, int c, int sequence) {
        return (3 * a + 5 * b + 7 * c + 11 * sequence + 2) % MODULUS;
    }

    /** The flash, how its blocks and records are told from torn ones, and the cut. */
    private static final class Flash {
        private final int[] words = new int[BLOCKS * WORDS];
        private final int[] erasures = new int[BLOCKS];
        private int done = 0;
        /** The operations that are left until the cut; NONE if no cut is set. */
        private int left = NONE;

        Flash() {
            for (int at = 0; at < words.length; at++) {
                words[at] = at < HEADER - 1 ? 0 : ERASED;
            }
            words[HEADER - 1] = 1;
        }

        void copyFrom(Flash other) {
            System.arraycopy(other.words, 0, words, 0, BLOCKS * WORDS);
            System.arraycopy(other.erasures, 0, erasures, 0, BLOCKS);
            done = other.done;
            left = other.left;
        }

        int read(int block, int k) {
            int at = block * WORDS + k;
            return at >= 0 && at < words.length ? words[at] : ERASED;
        }

        /** Writes a word, unless the cut comes instead; tells whether it did. */
        boolean write(int block, int k, int value) {
            int at = block * WORDS + k;
            if (at < 0 || at >= words.length || !spendOperation()) {
                return false;
            }
            words[at] = value;
            return true;
        }

        /** Erases a block, unless the cut comes instead; tells whether it did. */
        boolean erase(int block) {
            if (block < 0 || block >= erasures.length || !spendOperation()) {
                return false;
            }
            for (int at = block * WORDS; at < (block + 1) * WORDS && at < words.length; at++) {
                words[at] = ERASED;
            }
            erasures[block]++;
            return true;
        }

        private boolean spendOperation() {
            if (left == 0) {
                left = NONE;
                return false;
            }
            if (left != NONE) {
                left--;
            }
            done++;
            return true;
        }

        int erasuresOf(int block) {
            return block >= 0 && block < erasures.length ? erasures[block] : 0;
        }

        int recordWord(int block, int place, int i) {
            return read(block, HEADER + place * RECORD + i);
        }

        boolean isWhole(int block) {
            for (int k = 0; k < HEADER - 1; k++) {
                if (read(block, k) == ERASED) {
                    return false;
                }
            }
            int check = headerCheck(read(block, 0), read(block, 1), read(block, 2),
                    read(block, 3), read(block, 4));
            return read(block, HEADER - 1) == check;
        }

        /** EMPTY, WHOLE or TORN, for a place of a whole block. */
        int stateOf(int block, int place) {
            if (isEmpty(block, place)) {
                return EMPTY;
            }
            int check = recordCheck(recordWord(block, place, 0), recordWord(block, place, 1),
                    recordWord(block, place, 2), read(block, 0));
            return recordWord(block, place, RECORD - 1) == check ? WHOLE : TORN;
        }

        private boolean isEmpty(int block, int place) {
            for (int i = 0; i < RECORD; i++) {
                if (recordWord(block, place, i) != ERASED) {
                    return false;
                }
            }
            return true;
        }

        int tallyIn(int block, int state) {
            if (!isWhole(block)) {
                return 0;
            }
            int tally = 0;
            for (int place = 0; place < PLACES; place++) {
                if (stateOf(block, place) == state) {
                    tally++;
                }
            }
            return tally;
        }

        int tally(int state) {
            int tally = 0;
            for (int block = 0; block < BLOCKS; block++) {
                tally += tallyIn(block, state);
            }
            return tally;
        }

        /** The whole block that no whole block follows in the sequence. */
        int newestBlock() {
            for (int block = 0; block < BLOCKS; block++) {
                if (isWhole(block) && !isFollowed(block)) {
                    return block;
                }
            }
            return 0;
        }

        private boolean isFollowed(int block) {
            int following = (read(block, 0) + 1) % NUMBERS;
            for (int other = 0; other < BLOCKS; other++) {
                if (read(other, 0) == following && isWhole(other)) {
                    return true;
                }
            }
            return false;
        }

        /** The place behind the last one that is not empty. */
        int nextPlaceIn(int block) {
            int next = PLACES;
            while (next > 0 && isEmpty(block, next - 1)) {
                next--;
            }
            return next;
        }
    }

    /** What the printer knows as long as the power is on. */
    private static final class Memory {
        private int current = 0;
        private int next = 0;
        private int number = 0;
        private int sum = 0;
        private int tickets = 0;
        private int paper = 0;

        void copyFrom(Memory other) {
            current = other.current;
            next = other.next;
            number = other.number;
            sum = other.sum;
            tickets = other.tickets;
            paper = other.paper;
        }

        void forget() {
            current = 0;
            next = 0;
            number = 0;
            sum = 0;
            tickets = 0;
            paper = 0;
        }

        /** Finds out from the flash what was known before the power went. */
        void recall(Flash flash) {
            current = flash.newestBlock();
            next = flash.nextPlaceIn(current);
            sum = flash.read(current, 1);
            tickets = flash.read(current, 2);
            paper = flash.read(current, 3);
            number = flash.read(current, 4);
            for (int place = 0; place < PLACES; place++) {
                if (flash.stateOf(current, place) == WHOLE) {
                    learn(flash.recordWord(current, place, 0), flash.recordWord(current, place, 2));
                }
            }
        }

        /** What a whole record changes: the same when it is written and when it is read. */
        void learn(int first, int value) {
            number = (first % NUMBERS + 1) % NUMBERS;
            int price = value % SORT_FACTOR;
            switch (first / NUMBERS) {
                case TICKET:
                    sum += price;
                    tickets++;
                    paper -= lengthOf(value / SORT_FACTOR);
                    break;
                case CANCELLATION:
                    sum -= price;
                    tickets--;
                    break;
                case CLOSE:
                    sum = 0;
                    tickets = 0;
                    break;
                case PAPER:
                    paper = value;
                    break;
                default:
                    break;
            }
        }
    }

    /** A printer with all that belongs to it, so that it can be copied as a whole. */
    private static final class Printer {
        private final Flash flash = new Flash();
        private final Memory memory = new Memory();
        private final int[] prices = {150, 250, 400, 800};
        private boolean on = true;
        private int time = 0;
        private int there = 0;
        private int printed = 0;

        void copyFrom(Printer other) {
            flash.copyFrom(other.flash);
            memory.copyFrom(other.memory);
            System.arraycopy(other.prices, 0, prices, 0, SORTS);
            on = other.on;
            time = other.time;
            there = other.there;
            printed = other.printed;
        }

        int priceOf(int sort) {
            return sort >= 0 && sort < prices.length ? prices[sort] : 0;
        }

        void changePrice(int sort, int price) {
            if (sort >= 0 && sort < prices.length) {
                prices[sort] = price;
            }
        }

        /** The error code that stands against the sale of a ticket, or FINE. */
        int refusalOf(int sort) {
            if (!isSort(sort)) {
                return BAD;
            }
            if (!on || memory.sum + priceOf(sort) > MOST_SUM) {
                return STATE;
            }
            return memory.paper < lengthOf(sort) ? OUT : FINE;
        }

        int issueTicket(int sort) {
            int ticket = memory.number;
            int value = SORT_FACTOR * sort + priceOf(sort);
            if (!writeRecord(TICKET, time, value)) {
                return CUT;
            }
            if (there >= lengthOf(sort)) {
                there -= lengthOf(sort);
                printed++;
                return ticket;
            }
            there = 0;
            return writeRecord(CANCELLATION, time, value) ? ticket : CUT;
        }

        boolean endsWithTicket() {
            int place = memory.next - 1;
            return place >= 0 && flash.stateOf(memory.current, place) == WHOLE
                    && flash.recordWord(memory.current, place, 0) / NUMBERS == TICKET;
        }

        int cancelLatest() {
            int value = flash.recordWord(memory.current, memory.next - 1, 2);
            return writeRecord(CANCELLATION, time, value) ? value % SORT_FACTOR : CUT;
        }

        int closeDay() {
            int total = memory.sum;
            return writeRecord(CLOSE, time, total) ? total : CUT;
        }

        int putInPaper(int told, int really) {
            int before = there;
            there = really;
            return writeRecord(PAPER, time, told) ? before : CUT;
        }

        int moveClock(int to) {
            boolean isStep = Math.abs(to - time) >= LEAST_STEP;
            if (isStep && !writeRecord(CLOCK_STEP, to, time)) {
                return CUT;
            }
            time = to;
            return isStep ? 1 : 0;
        }

        void losePower() {
            on = false;
            memory.forget();
        }

        void wake() {
            on = true;
            memory.recall(flash);
        }

        /** Writes a record and learns what it changes; tells whether the power stayed. */
        private boolean writeRecord(int kind, int at, int value) {
            int first = NUMBERS * kind + memory.number;
            boolean hasPlace = memory.next < PLACES || beginBlock();
            if (!hasPlace || !fillPlace(first, at, value)) {
                losePower();
                return false;
            }
            memory.next++;
            memory.learn(first, value);
            return true;
        }

        private boolean beginBlock() {
            int block = (memory.current + 1) % BLOCKS;
            int sequence = (flash.read(memory.current, 0) + 1) % NUMBERS;
            int check = headerCheck(sequence, memory.sum, memory.tickets, memory.paper, memory.number);
            boolean begun = flash.erase(block)
                    && flash.write(block, 0, sequence)
                    && flash.write(block, 1, memory.sum)
                    && flash.write(block, 2, memory.tickets)
                    && flash.write(block, 3, memory.paper)
                    && flash.write(block, 4, memory.number)
                    && flash.write(block, 5, check);
            if (begun) {
                memory.current = block;
                memory.next = 0;
            }
            return begun;
        }

        private boolean fillPlace(int first, int at, int value) {
            int block = memory.current;
            int k = HEADER + memory.next * RECORD;
            int check = recordCheck(first, at, value, flash.read(block, 0));
            return flash.write(block, k, first)
                    && flash.write(block, k + 1, at)
                    && flash.write(block, k + 2, value)
                    && flash.write(block, k + 3, check);
        }
    }

    /** The whole records of a flash, from the oldest one, as they were when it was read. */
    private static final class Journal {
        private final int[] details = new int[BLOCKS * PLACES * DETAILS];
        private int count = 0;

        Journal gather(Flash flash) {
            count = 0;
            int newest = flash.newestBlock();
            // Each block is begun behind the one before it, so the ring of
            // blocks behind the newest one goes from the oldest to the newest.
            for (int i = 1; i <= BLOCKS; i++) {
                int block = (newest + i) % BLOCKS;
                boolean whole = flash.isWhole(block);
                for (int place = 0; whole && place < PLACES; place++) {
                    if (flash.stateOf(block, place) == WHOLE) {
                        add(flash, block, place);
                    }
                }
            }
            return this;
        }

        private void add(Flash flash, int block, int place) {
            int first = flash.recordWord(block, place, 0);
            setDetail(NUMBER, first % NUMBERS);
            setDetail(KIND, first / NUMBERS);
            setDetail(TIME, flash.recordWord(block, place, 1));
            setDetail(VALUE, flash.recordWord(block, place, 2));
            setDetail(BLOCK, block);
            setDetail(PLACE, place);
            count++;
        }

        private void setDetail(int what, int number) {
            int at = count * DETAILS + what;
            if (at >= 0 && at < details.length) {
                details[at] = number;
            }
        }

        int detail(int k, int what) {
            int at = k * DETAILS + what;
            return k >= 0 && k < count && at >= 0 && at < details.length ? details[at] : NONE;
        }

        int countOf(int kind) {
            int same = 0;
            for (int k = 0; k < count; k++) {
                if (detail(k, KIND) == kind) {
                    same++;
                }
            }
            return same;
        }

        /** The sum of the prices in the records of a kind, for one sort or (-1) for all. */
        int pricesOf(int kind, int sort) {
            int sum = 0;
            for (int k = 0; k < count; k++) {
                int value = detail(k, VALUE);
                boolean isOfSort = sort == -1 || value / SORT_FACTOR == sort;
                if (isOfSort && detail(k, KIND) == kind) {
                    sum += value % SORT_FACTOR;
                }
            }
            return sum;
        }

        int stepsBack() {
            int steps = 0;
            for (int k = 1; k < count; k++) {
                if (stepTo(k) < 0) {
                    steps++;
                }
            }
            return steps;
        }

        int greatestStep() {
            int greatest = count < 2 ? 0 : stepTo(1);
            for (int k = 2; k < count; k++) {
                greatest = Math.max(greatest, stepTo(k));
            }
            return greatest;
        }

        private int stepTo(int k) {
            return detail(k, TIME) - detail(k - 1, TIME);
        }

        int numberGaps() {
            int gaps = 0;
            for (int k = 1; k < count; k++) {
                if (detail(k, NUMBER) != (detail(k - 1, NUMBER) + 1) % NUMBERS) {
                    gaps++;
                }
            }
            return gaps;
        }
    }

    /** The latest states that can be restored, in a ring of rows that are used again. */
    private static final class Past {
        private final Printer[] states = new Printer[STATES];
        private int oldest = 0;
        private int size = 0;

        Past() {
            for (int i = 0; i < states.length; i++) {
                states[i] = new Printer();
            }
        }

        void remember(Printer printer) {
            if (size == STATES) {
                oldest = (oldest + 1) % STATES;
                size--;
            }
            Printer state = stateAt(oldest + size);
            if (state != null) {
                state.copyFrom(printer);
                size++;
            }
        }

        void restore(Printer printer) {
            Printer latest = size > 0 ? stateAt(oldest + size - 1) : null;
            if (latest != null) {
                printer.copyFrom(latest);
                size--;
            }
        }

        private Printer stateAt(int i) {
            int at = i % STATES;
            return at >= 0 && at < states.length ? states[at] : null;
        }
    }

    /** A printer that was kept, if one was. */
    private static final class Image {
        private final Printer state = new Printer();
        private boolean filled = false;

        void store(Printer printer) {
            state.copyFrom(printer);
            filled = true;
        }
    }
}
