/** Promises 13 to 21, sentence by sentence where one names a boundary. */
public final class BoundsReadingTest {
    private static final Check CHECK = new Check();
    private static final int ERASED = 65535;

    public static void main(String[] args) {
        toldOutOfRange();
        toldWhenOff();
        toldWithoutACut();
        toldAtTheEnds();
        priceOutOfRange();
        wordOutOfRange();
        wordAtTheEnds();
        blockOutOfRange();
        blockThatIsNotWhole();
        blockEmptyAndFull();
        blockErasures();
        recordsOutOfRange();
        recordsOfAnEmptyJournal();
        recordsOfEachKind();
        recordsInWholeBlocksAlone();
        recordOutOfRange();
        recordNotSoMany();
        recordFromTheOldest();
        recordSkipsTornOnes();
        takingsOutOfRange();
        takingsOfEachSort();
        takingsBelowZero();
        takingsOfTheJournalAlone();
        meanWithoutTickets();
        meanOfTickets();
        timesOutOfRange();
        timesOfFewRecords();
        timesLess();
        timesGreatest();
        timesAcrossBlocks();
        numbersWithoutGaps();
        readingWhenOff();
        readingIsNoChange();
        CHECK.end("BoundsReadingTest");
    }

    // told

    private static void toldOutOfRange() {
        CHECK.sentence("13 told: BAD if what is out of range");
        for (int what : Check.outside(0, 12)) {
            CHECK.due("told(" + what + ")", new TicketJournal().told(what), Check.BAD);
            TicketJournal x = new TicketJournal();
            x.off();
            CHECK.due("told(" + what + ") when off", x.told(what), Check.BAD);
        }
    }

    private static void toldWhenOff() {
        CHECK.sentence("13 told: 2 to 7: NONE if the power is off");
        TicketJournal x = Given.loaded(900, 800);
        x.pass(12);
        x.cut(30);
        x.sell(3);
        CHECK.dueTold(x, 1, 12, 2, 800, 1, 800, 0, 2, 700, 1, 8, 26, 4);
        x.off();
        CHECK.dueTold(x, 0, 12, Check.NONE, Check.NONE, Check.NONE, Check.NONE, Check.NONE, Check.NONE,
                700, 1, 8, 26, 5);
        x.start();
        CHECK.dueTold(x, 1, 12, 2, 800, 1, 800, 0, 2, 700, 1, 8, 26, 6);
    }

    private static void toldWithoutACut() {
        CHECK.sentence("13 told: 11 operations that are left until the cut (NONE if no cut is set)");
        TicketJournal x = new TicketJournal();
        CHECK.due("told(11)", x.told(11), Check.NONE);
        x.close();
        CHECK.due("told(11) behind operations without a cut", x.told(11), Check.NONE);
        x.cut(0);
        CHECK.due("told(11)", x.told(11), 0);
        x.close();
        CHECK.due("told(11) when the cut has come", x.told(11), Check.NONE);
        x.cut(100);
        CHECK.due("told(11)", x.told(11), 100);
        x.cut(-1);
        CHECK.due("told(11)", x.told(11), Check.NONE);
    }

    private static void toldAtTheEnds() {
        CHECK.sentence("13 told: 3 the sum of the day; 4 the number of tickets of the day; 5 the paper by the count");
        TicketJournal x = new TicketJournal();
        Given.fullDay(x);
        CHECK.dueTold(x, 1, 0, 76, 60000, 75, 42500, 3, 4, 42500, 75, 76 * 4 + 18 * 7, Check.NONE, 8);
        CHECK.sentence("13 told: 9 tickets that were printed (a cancelled one was, a spoilt one was not)");
        x = Given.loaded(1000, 40);
        x.sell(0);
        x.cancel();
        CHECK.due("told(9)", x.told(9), 1);
        x.sell(0);
        CHECK.due("told(9)", x.told(9), 1);
    }

    // price and word

    private static void priceOutOfRange() {
        CHECK.sentence("14 price: BAD if there is no such sort");
        for (int sort : Check.outside(0, 3)) {
            CHECK.due("price(" + sort + ")", new TicketJournal().price(sort), Check.BAD);
        }
        for (int sort = 0; sort < 4; sort++) {
            TicketJournal x = new TicketJournal();
            CHECK.due("price(" + sort + ")", x.price(sort), Given.PRICES[sort]);
            x.off();
            CHECK.due("price(" + sort + ") when off", x.price(sort), Given.PRICES[sort]);
        }
    }

    private static void wordOutOfRange() {
        CHECK.sentence("15 word: BAD if there is no such block or word");
        TicketJournal x = Given.closed(20);
        for (int block : Check.outside(0, 4)) {
            CHECK.due("word(" + block + ", 0)", x.word(block, 0), Check.BAD);
            CHECK.due("word(" + block + ", 21)", x.word(block, 21), Check.BAD);
            CHECK.due("word(" + block + ", 22)", x.word(block, 22), Check.BAD);
        }
        for (int k : Check.outside(0, 21)) {
            CHECK.due("word(0, " + k + ")", x.word(0, k), Check.BAD);
            CHECK.due("word(2, " + k + ")", x.word(2, k), Check.BAD);
            CHECK.due("word(4, " + k + ")", x.word(4, k), Check.BAD);
        }
    }

    private static void wordAtTheEnds() {
        CHECK.sentence("15 word: Returns the word");
        TicketJournal x = Given.closed(19);
        CHECK.dueWords(x, 4, 21, ERASED);
        x.close();
        CHECK.dueWords(x, 4, 18, 30019, 0, 0, 3 * 30019 + 44 + 2 - 65521);
        CHECK.dueWords(x, 0, 0, 0);
        CHECK.dueWords(x, 4, 0, 4, 0, 0, 0, 16, 12 + 208 + 1);
        x.off();
        CHECK.dueWords(x, 4, 18, 30019);
    }

    // block

    private static void blockOutOfRange() {
        CHECK.sentence("16 block: BAD if there is no such block or what is out of range");
        TicketJournal x = new TicketJournal();
        for (int block : Check.outside(0, 4)) {
            for (int what = 0; what <= 4; what++) {
                CHECK.due("block(" + block + ", " + what + ")", x.block(block, what), Check.BAD);
            }
        }
        for (int what : Check.outside(0, 4)) {
            CHECK.due("block(0, " + what + ")", x.block(0, what), Check.BAD);
            CHECK.due("block(4, " + what + ")", x.block(4, what), Check.BAD);
        }
    }

    private static void blockThatIsNotWhole() {
        CHECK.sentence("16 block: 1 its sequence number (NONE if it is not whole); 2 and 3: 0 if it is not whole");
        for (int block = 1; block < 5; block++) {
            CHECK.dueBlock(new TicketJournal(), block, 0, Check.NONE, 0, 0, 0);
        }
        for (int n = 1; n <= 6; n++) {
            TicketJournal x = Given.closed(20);
            CHECK.dueBlock(x, 0, 1, 0, 4, 0, 0);
            Given.closeCut(x, n);
            CHECK.dueBlock(x, 0, 0, Check.NONE, 0, 0, 1);
            CHECK.dueBlock(x, 1, 1, 1, 4, 0, 1);
        }
        TicketJournal x = Given.closed(20);
        Given.closeCut(x, 7);
        CHECK.dueBlock(x, 0, 1, 5, 0, 0, 1);
    }

    private static void blockEmptyAndFull() {
        CHECK.sentence("16 block: 2 whole records in it; 3 torn records in it");
        TicketJournal x = new TicketJournal();
        CHECK.dueBlock(x, 0, 1, 0, 0, 0, 0);
        for (int whole = 1; whole <= 4; whole++) {
            x.close();
            CHECK.dueBlock(x, 0, 1, 0, whole, 0, 0);
        }
        for (int torn = 1; torn <= 4; torn++) {
            Given.closeCut(x, torn == 1 ? 8 : torn - 1);
            CHECK.dueBlock(x, 1, 1, 1, 0, torn, 1);
            x.start();
        }
        x = Given.closed(1);
        Given.closeCut(x, 3);
        x.start();
        x.close();
        Given.closeCut(x, 1);
        CHECK.dueBlock(x, 0, 1, 0, 2, 2, 0);
    }

    private static void blockErasures() {
        CHECK.sentence("16 block: 4 how often it was erased");
        TicketJournal x = Given.closed(4);
        CHECK.due("block(1, 4)", x.block(1, 4), 0);
        x.cut(0);
        x.close();
        x.start();
        CHECK.due("block(1, 4): the cut came first", x.block(1, 4), 0);
        for (int times = 1; times <= 6; times++) {
            Given.closeCut(x, times);
            x.start();
            CHECK.due("block(1, 4)", x.block(1, 4), times);
        }
        x.close();
        CHECK.due("block(1, 4)", x.block(1, 4), 7);
        CHECK.due("block(0, 4)", x.block(0, 4), 0);
        x.undo();
        CHECK.due("block(1, 4) when it is undone", x.block(1, 4), 6);
    }

    // records

    private static void recordsOutOfRange() {
        CHECK.sentence("17 records: BAD if kind is out of range");
        for (int kind : Check.outside(-2, 4)) {
            CHECK.due("records(" + kind + ")", new TicketJournal().records(kind), Check.BAD);
            CHECK.due("records(" + kind + ")", Given.closed(20).records(kind), Check.BAD);
        }
    }

    private static void recordsOfAnEmptyJournal() {
        CHECK.sentence("17 records: Returns how many there are (none)");
        for (int kind = -2; kind <= 4; kind++) {
            CHECK.due("records(" + kind + ")", new TicketJournal().records(kind), 0);
        }
    }

    private static void recordsOfEachKind() {
        CHECK.sentence("17 records: the kind, 0 to 4, or -1 for whole records of all kinds, or -2 for torn ones");
        TicketJournal x = Given.loaded(1000, 1000);
        x.sell(0);
        x.sell(0);
        x.sell(3);
        x.cancel();
        x.sell(1);
        x.cancel();
        x.setClock(6);
        x.close();
        x.close();
        x.close();
        x.load(5, 5);
        int[] counts = {0, 12, 4, 2, 1, 3, 2};
        dueRecords(x, counts);
        Given.closeCut(x, 8);
        counts[0] = 1;
        dueRecords(x, counts);
        x.start();
        Given.closeCut(x, 3);
        counts[0] = 2;
        dueRecords(x, counts);
    }

    private static void dueRecords(TicketJournal x, int[] counts) {
        for (int kind = -2; kind <= 4; kind++) {
            CHECK.due("records(" + kind + ")", x.records(kind), counts[kind + 2]);
        }
    }

    private static void recordsInWholeBlocksAlone() {
        CHECK.sentence("17 records: Counts records in all whole blocks");
        TicketJournal x = Given.closed(20);
        CHECK.due("records(3) with all places full", x.records(3), 20);
        CHECK.due("records(-1)", x.records(-1), 20);
        x.cut(0);
        x.close();
        CHECK.due("records(-1): nothing is erased", x.records(-1), 20);
        x.start();
        Given.closeCut(x, 6);
        CHECK.due("records(-1) without block 0", x.records(-1), 16);
        CHECK.due("records(3)", x.records(3), 16);
        CHECK.due("records(-2)", x.records(-2), 0);
        x.start();
        Given.closeCut(x, 10);
        CHECK.due("records(-1) with block 0 begun", x.records(-1), 16);
        CHECK.due("records(-2)", x.records(-2), 1);
    }

    // record

    private static void recordOutOfRange() {
        CHECK.sentence("18 record: BAD if k is negative or what is out of range");
        TicketJournal x = Given.closed(1);
        int[] negative = {-1, -2, -65536, Integer.MIN_VALUE, Integer.MIN_VALUE + 1};
        for (int k : negative) {
            for (int what = -1; what <= 6; what++) {
                CHECK.due("record(" + k + ", " + what + ")", x.record(k, what), Check.BAD);
            }
        }
        for (int what : Check.outside(0, 5)) {
            CHECK.due("record(0, " + what + ")", x.record(0, what), Check.BAD);
            CHECK.due("record(1, " + what + ")", x.record(1, what), Check.BAD);
            CHECK.due("record(MAX, " + what + ")", x.record(Integer.MAX_VALUE, what), Check.BAD);
        }
    }

    private static void recordNotSoMany() {
        CHECK.sentence("18 record: NONE if there are not so many");
        int[] journals = {0, 1, 3, 4, 5, 19, 20, 21};
        int[] counts = {0, 1, 3, 4, 5, 19, 20, 17};
        int[] far = {20, 21, 100, 65536, 715827883, Integer.MAX_VALUE};
        for (int i = 0; i < journals.length; i++) {
            TicketJournal x = Given.closed(journals[i]);
            for (int what = 0; what <= 5; what++) {
                CHECK.due("record(" + counts[i] + ", " + what + ")", x.record(counts[i], what), Check.NONE);
            }
            CHECK.due("record(count - 1, 0)", x.record(counts[i] - 1, 0),
                    journals[i] == 0 ? Check.BAD : journals[i] - 1);
            for (int k : far) {
                CHECK.due("record(" + k + ", 5)", x.record(k, 5), Check.NONE);
            }
        }
    }

    private static void recordFromTheOldest() {
        CHECK.sentence("18 record: from the oldest one: the whole blocks in the order in which they were begun");
        for (int records = 1; records <= 42; records++) {
            TicketJournal x = Given.closed(records);
            int count = x.records(-1);
            int oldest = records - count;
            CHECK.due("the oldest one begins a block", oldest % 4, 0);
            CHECK.dueRecord(x, 0, oldest, 3, 0, 0, oldest / 4 % 5, 0);
            CHECK.dueRecord(x, count - 1, records - 1, 3, 0, 0, (records - 1) / 4 % 5, (records - 1) % 4);
            CHECK.dueRecord(x, count / 2, oldest + count / 2);
        }
    }

    private static void recordSkipsTornOnes() {
        CHECK.sentence("18 record: Returns a whole record .. in each the places in their order");
        TicketJournal x = new TicketJournal();
        Given.closeCut(x, 2);
        x.start();
        x.pass(3);
        x.close();
        Given.closeCut(x, 3);
        x.start();
        x.load(8, 9);
        CHECK.dueRecord(x, 0, 0, 3, 3, 0, 0, 1);
        CHECK.dueRecord(x, 1, 1, 4, 3, 8, 0, 3);
        CHECK.due("record(2, 0)", x.record(2, 0), Check.NONE);
        x = Given.closed(20);
        Given.closeCut(x, 1);
        CHECK.dueRecord(x, 0, 4, 3, 0, 0, 1, 0);
        CHECK.dueRecord(x, 15, 19, 3, 0, 0, 4, 3);
        CHECK.due("record(16, 0)", x.record(16, 0), Check.NONE);
    }

    // takings

    private static void takingsOutOfRange() {
        CHECK.sentence("19 takings: BAD if there is no such sort");
        for (int sort : Check.outside(-1, 3)) {
            CHECK.due("takings(" + sort + ")", new TicketJournal().takings(sort), Check.BAD);
            CHECK.due("takings(" + sort + ")", Given.loaded(1, 1).takings(sort), Check.BAD);
        }
    }

    private static void takingsOfEachSort() {
        CHECK.sentence("19 takings: the sort, or -1 for all sorts");
        for (int sort = -1; sort <= 3; sort++) {
            CHECK.due("takings(" + sort + ") of an empty journal", new TicketJournal().takings(sort), 0);
        }
        TicketJournal x = Given.loaded(50000, 50000);
        x.setPrice(0, 1);
        x.setPrice(3, 999);
        for (int sort = 0; sort < 4; sort++) {
            x.sell(sort);
            x.sell(sort);
        }
        int[] takings = {2 + 500 + 800 + 1998, 2, 500, 800, 1998};
        for (int sort = -1; sort <= 3; sort++) {
            CHECK.due("takings(" + sort + ")", x.takings(sort), takings[sort + 1]);
        }
        x.cancel();
        CHECK.due("takings(3)", x.takings(3), 999);
        CHECK.due("takings(-1)", x.takings(-1), 2301);
        CHECK.sentence("19 takings: all tickets of a sort in it (no other kind has a sort)");
        x = new TicketJournal();
        x.load(3999, 0);
        x.load(150, 0);
        x.setClock(2250);
        x.setClock(60);
        x.close();
        for (int sort = -1; sort <= 3; sort++) {
            CHECK.due("takings(" + sort + ")", x.takings(sort), 0);
        }
    }

    private static void takingsBelowZero() {
        CHECK.sentence("19 takings: the takings (which can be negative, too)");
        TicketJournal x = Given.loaded(50000, 50000);
        x.setPrice(3, 999);
        Given.close(x, 2);
        x.sell(3);
        x.cancel();
        Given.close(x, 15);
        CHECK.due("takings(3)", x.takings(3), 0);
        x.close();
        CHECK.due("takings(3) when the ticket is erased", x.takings(3), -999);
        CHECK.due("takings(-1)", x.takings(-1), -999);
        CHECK.due("takings(2)", x.takings(2), 0);
        Given.close(x, 4);
        CHECK.due("takings(3) when both are erased", x.takings(3), 0);
    }

    private static void takingsOfTheJournalAlone() {
        CHECK.sentence("19 takings: Returns the takings in the journal");
        TicketJournal x = new TicketJournal();
        Given.fullDay(x);
        CHECK.due("takings(3) of 20 tickets", x.takings(3), 16000);
        x.setPrice(3, 1);
        CHECK.due("takings(3): the prices that they had", x.takings(3), 16000);
        x.close();
        CHECK.due("takings(3) of 16 tickets", x.takings(3), 12800);
        x = Given.loaded(100, 100);
        x.cut(3);
        x.sell(0);
        CHECK.due("takings(0): a torn one does not count", x.takings(0), 0);
    }

    // mean

    private static void meanWithoutTickets() {
        CHECK.sentence("20 mean: Returns the mean, 0.0 if there are no tickets");
        CHECK.due("mean() of an empty journal", new TicketJournal().mean(), 0.0);
        CHECK.due("mean() of a full one without tickets", Given.closed(20).mean(), 0.0);
        TicketJournal x = Given.loaded(500, 500);
        Given.close(x, 2);
        x.sell(1);
        x.cancel();
        Given.close(x, 16);
        CHECK.due("records(1)", x.records(1), 1);
        CHECK.due("mean() of a cancellation alone", x.mean(), 0.0);
        x = Given.loaded(500, 500);
        x.cut(3);
        x.sell(1);
        CHECK.due("mean() of a torn ticket alone", x.mean(), 0.0);
    }

    private static void meanOfTickets() {
        CHECK.sentence("20 mean: divided by their number, both converted to float");
        TicketJournal x = Given.loaded(50000, 50000);
        x.setPrice(0, 1);
        x.sell(0);
        CHECK.due("mean() of one", x.mean(), 1.0);
        x.setPrice(0, 999);
        x.sell(0);
        CHECK.due("mean() of two", x.mean(), 500.0);
        x.setPrice(0, 1);
        x.sell(0);
        CHECK.due("mean() of three", x.mean(), 1001.0f / 3.0f);
        CHECK.due("mean() is a float", x.mean() == 1001.0 / 3.0 ? 1 : 0, 0);
        x.cancel();
        CHECK.due("mean(): a cancelled ticket stays in it", x.mean(), 1001.0f / 3.0f);
        x.load(100, 0);
        x.setPrice(0, 2);
        x.sell(0);
        CHECK.due("mean(): a spoilt ticket is in it", x.mean(), 1003.0f / 4.0f);
        x = new TicketJournal();
        Given.fullDay(x);
        CHECK.due("mean() of a full journal", x.mean(), 800.0);
    }

    // times

    private static void timesOutOfRange() {
        CHECK.sentence("21 times: BAD if what is out of range");
        for (int what : Check.outside(0, 2)) {
            CHECK.due("times(" + what + ")", new TicketJournal().times(what), Check.BAD);
            CHECK.due("times(" + what + ")", Given.closed(20).times(what), Check.BAD);
        }
    }

    private static void timesOfFewRecords() {
        CHECK.sentence("21 times: 0 if there are fewer than two records");
        for (int records = 0; records <= 1; records++) {
            TicketJournal x = new TicketJournal();
            x.pass(77);
            Given.close(x, records);
            for (int what = 0; what <= 2; what++) {
                CHECK.due("times(" + what + ") of " + records + " records", x.times(what), 0);
            }
        }
        TicketJournal x = new TicketJournal();
        x.pass(77);
        x.close();
        x.pass(3);
        x.cut(3);
        x.close();
        CHECK.due("times(1) of one whole and one torn record", x.times(1), 0);
        x.start();
        x.close();
        CHECK.due("times(1) of two", x.times(1), 3);
    }

    private static void timesLess() {
        CHECK.sentence("21 times: 0 how many records have a time that is less than that of the record before");
        TicketJournal x = new TicketJournal();
        x.setClock(10);
        x.close();
        CHECK.due("times(0): the same time is not less", x.times(0), 0);
        x.setClock(9);
        x.close();
        CHECK.due("times(0): 1 less", x.times(0), 1);
        x.setClock(4);
        CHECK.due("times(0)", x.times(0), 2);
        x.pass(1);
        x.close();
        CHECK.due("times(0): 1 more", x.times(0), 2);
        x = new TicketJournal();
        x.setClock(1000);
        for (int i = 0; i < 20; i++) {
            x.setClock(1000 - 10 * (i + 1));
        }
        CHECK.due("times(0) of 17 records, each less", x.times(0), 16);
        CHECK.due("times(1)", x.times(1), -10);
    }

    private static void timesGreatest() {
        CHECK.sentence("21 times: 1 the greatest difference of the time of a record minus that of the record before");
        TicketJournal x = new TicketJournal();
        x.setClock(60000);
        x.setClock(0);
        CHECK.due("times(1): it can be below 0", x.times(1), -60000);
        x.setClock(60000);
        CHECK.due("times(1)", x.times(1), 60000);
        x = new TicketJournal();
        x.setClock(50);
        x.setClock(30);
        x.setClock(29);
        x.close();
        CHECK.due("times(1) of -20 and -1", x.times(1), -1);
        x.close();
        CHECK.due("times(1) with the same time", x.times(1), 0);
        x.pass(1);
        x.close();
        CHECK.due("times(1)", x.times(1), 1);
        x.close();
        CHECK.due("times(1): the last one need not be the greatest", x.times(1), 1);
    }

    private static void timesAcrossBlocks() {
        CHECK.sentence("21 times: that of the record before (in the block before, too)");
        TicketJournal x = Given.closed(20);
        x.setClock(700);
        CHECK.due("times(1) from block 4 to block 0", x.times(1), 700);
        CHECK.due("times(0)", x.times(0), 0);
        x.setClock(600);
        CHECK.due("times(0)", x.times(0), 1);
        Given.close(x, 18);
        CHECK.due("times(1) when the step up is the first record", x.times(1), 0);
        CHECK.due("times(0)", x.times(0), 1);
        Given.close(x, 1);
        CHECK.due("times(0) when both are erased", x.times(0), 0);
    }

    private static void numbersWithoutGaps() {
        CHECK.sentence("21 times: 2 how many records have a number that is not the one behind that of the record before");
        for (int records = 0; records <= 42; records++) {
            CHECK.due("times(2) of " + records + " records", Given.closed(records).times(2), 0);
        }
        // A record that is torn leaves its number to the next one, in any block.
        for (int n = 0; n <= 10; n++) {
            TicketJournal x = Given.closed(20);
            Given.closeCut(x, n);
            CHECK.due("times(2) behind a cut at " + n, x.times(2), 0);
            x.start();
            x.close();
            CHECK.due("times(2) behind a cut at " + n, x.times(2), 0);
            CHECK.due("record(.., 0)", x.record(x.records(-1) - 1, 0), 20);
        }
    }

    private static void readingWhenOff() {
        CHECK.sentence("reading the journal: whether the power is on or off");
        TicketJournal x = Given.loaded(500, 500);
        x.sell(3);
        x.pass(9);
        x.sell(0);
        x.off();
        int[] counts = {0, 3, 2, 0, 0, 0, 1};
        dueRecords(x, counts);
        CHECK.dueRecord(x, 2, 2, 0, 9, 150, 0, 2);
        CHECK.due("takings(-1)", x.takings(-1), 950);
        CHECK.due("mean()", x.mean(), 475.0);
        CHECK.due("times(1)", x.times(1), 9);
        CHECK.dueBlock(x, 0, 1, 0, 3, 0, 0);
        CHECK.dueWords(x, 0, 10, 1, 0, 3800);
    }

    private static void readingIsNoChange() {
        CHECK.sentence("Some methods are called changes (those that read are none)");
        CHECK.dueNoChange("reading", x -> {
            x.load(500, 500);
            x.sell(3);
        }, x -> {
            x.told(12);
            x.price(0);
            x.word(0, 0);
            x.block(0, 0);
            x.records(-1);
            x.record(0, 0);
            x.takings(-1);
            x.mean();
            x.times(0);
        });
    }
}
