/**
 * The numbers behind 9999. No 512 calls reach them, so the document promises
 * nothing of these runs; but it names both wraps, and the class has no limit of
 * calls of its own that would keep a longer run from showing them.
 */
public final class BoundsWrapTest {
    private static final Check CHECK = new Check();
    private static final int RECORDS = 10000, BLOCKS = 10000;

    public static void main(String[] args) {
        numbersOfRecords();
        numberReadAtAStart();
        numberReadInTheMiddleOfABlock();
        numberOfACutRecord();
        sequenceNumbers();
        newestBlockBehindTheWrap();
        recordsAcrossTheWrap();
        cutWhereTheSequenceWraps();
        CHECK.end("BoundsWrapTest");
    }

    private static void numbersOfRecords() {
        CHECK.sentence("Numbers of records go from 0 to 9999, and then from 0 on again");
        TicketJournal x = Given.closed(RECORDS - 1);
        CHECK.due("told(2)", x.told(2), 9999);
        x.load(1000, 1000);
        CHECK.due("told(2)", x.told(2), 0);
        CHECK.dueRecord(x, x.records(-1) - 1, 9999, 4);
        CHECK.due("sell(0)", x.sell(0), 0);
        CHECK.dueRecord(x, x.records(-1) - 1, 0, 0);
        CHECK.due("told(2)", x.told(2), 1);
        CHECK.sentence("21 times: a number that is not the one behind that of the record before");
        CHECK.due("times(2)", x.times(2), 0);
    }

    private static void numberReadAtAStart() {
        CHECK.sentence("its number plus 1 (0 behind 9999) is the number of the next record");
        TicketJournal x = Given.closed(RECORDS - 1);
        x.off();
        CHECK.due("start()", x.start(), 9999);
        x.close();
        x.off();
        CHECK.due("start()", x.start(), 0);
        CHECK.due("told(7)", x.told(7), 4);
        Given.closeCut(x, 7);
        CHECK.due("start() behind six words", x.start(), 0);
        CHECK.due("told(7)", x.told(7), 0);
        CHECK.due("word(.., 4)", x.word(x.told(6), 4), 0);
        x.close();
        CHECK.dueRecord(x, x.records(-1) - 1, 0, 3);
    }

    private static void numberReadInTheMiddleOfABlock() {
        CHECK.sentence("its number plus 1 (0 behind 9999) is the number of the next record (with places left)");
        TicketJournal x = Given.closed(RECORDS - 3);
        for (int torn = 1; torn <= 2; torn++) {
            Given.closeCut(x, torn);
            x.start();
        }
        Given.close(x, 3);
        CHECK.due("told(2)", x.told(2), 0);
        CHECK.due("told(7)", x.told(7), 2);
        x.off();
        CHECK.due("start()", x.start(), 0);
        x.close();
        x.off();
        CHECK.due("start()", x.start(), 1);
        CHECK.due("times(2)", x.times(2), 0);
    }

    private static void numberOfACutRecord() {
        CHECK.sentence("Numbers of records go from 0 to 9999, and then from 0 on again (of a torn record)");
        TicketJournal x = Given.closed(RECORDS - 1);
        Given.closeCut(x, 3);
        CHECK.due("start()", x.start(), 9999);
        x.close();
        Given.closeCut(x, 3);
        CHECK.due("start()", x.start(), 0);
    }

    private static void sequenceNumbers() {
        CHECK.sentence("a sequence number that is 1 greater than that of the current block (behind 9999 comes 0)");
        TicketJournal x = Given.closed(4 * BLOCKS);
        CHECK.dueBlock(x, 4, 1, 9999, 4, 0, 2000);
        CHECK.dueBlock(x, 0, 1, 9995, 4, 0, 1999);
        x.close();
        CHECK.dueBlock(x, 0, 1, 0, 1, 0, 2000);
        CHECK.due("word(0, 0)", x.word(0, 0), 0);
        Given.close(x, 4);
        CHECK.dueBlock(x, 1, 1, 1, 1, 0, 2001);
    }

    private static void newestBlockBehindTheWrap() {
        CHECK.sentence("for which there is no whole block whose sequence number is 1 greater (in the sense above)");
        TicketJournal x = Given.closed(4 * BLOCKS - 3);
        for (int i = 0; i < 30; i++) {
            int block = x.told(6);
            int place = x.told(7);
            int number = x.told(2);
            x.off();
            CHECK.due("start()", x.start(), number);
            CHECK.due("told(6)", x.told(6), block);
            CHECK.due("told(7)", x.told(7), place);
            x.close();
        }
    }

    private static void recordsAcrossTheWrap() {
        CHECK.sentence("18 record: the whole blocks in the order in which they were begun, ending with the newest one");
        TicketJournal x = Given.closed(4 * BLOCKS - 10);
        for (int i = 0; i < 30; i++) {
            x.close();
            int count = x.records(-1);
            int next = x.told(2);
            for (int k = 0; k < count; k++) {
                CHECK.due("record(" + k + ", 0)", x.record(k, 0), Math.floorMod(next - count + k, RECORDS));
            }
            CHECK.due("record(count - 1, 4)", x.record(count - 1, 4), x.told(6));
            CHECK.due("times(2)", x.times(2), 0);
        }
    }

    private static void cutWhereTheSequenceWraps() {
        CHECK.sentence("the current block is the newest one of the whole blocks (when 0 is not whole behind 9999)");
        TicketJournal x = Given.closed(4 * BLOCKS);
        for (int n = 1; n <= 8; n++) {
            Given.closeCut(x, n);
            CHECK.due("start()", x.start(), 0);
            CHECK.due("told(6)", x.told(6), n < 7 ? 4 : 0);
            CHECK.due("told(7)", x.told(7), n < 7 ? 4 : n == 7 ? 0 : 1);
            CHECK.due("block(0, 1)", x.block(0, 1), n < 7 ? Check.NONE : 0);
            if (n == 7) {
                x.undo();
                x.undo();
                x.undo();
            }
        }
    }
}
