/** Promises 13 to 21: told, price, word, block, records, record, takings, mean, times. */
public final class ReadingTest {
    private static final Check CHECK = new Check();

    public static void main(String[] args) {
        outOfRange();
        told();
        block();
        records();
        recordsFromTheOldest();
        takings();
        mean();
        times();
        timesBelowZero();
        numberGaps();
        readingChangesNothing();
        CHECK.end("ReadingTest");
    }

    private static void outOfRange() {
        int[] far = {-3, -100, 22, 1000, Integer.MAX_VALUE, Integer.MIN_VALUE};
        TicketJournal x = new TicketJournal();
        for (int i : far) {
            CHECK.due("told(" + i + ")", x.told(i), Check.BAD);
            CHECK.due("price(" + i + ")", x.price(i), Check.BAD);
            CHECK.due("word(" + i + ", 0)", x.word(i, 0), Check.BAD);
            CHECK.due("word(0, " + i + ")", x.word(0, i), Check.BAD);
            CHECK.due("block(" + i + ", 0)", x.block(i, 0), Check.BAD);
            CHECK.due("block(0, " + i + ")", x.block(0, i), Check.BAD);
            CHECK.due("records(" + i + ")", x.records(i), Check.BAD);
            CHECK.due("record(0, " + i + ")", x.record(0, i), Check.BAD);
            CHECK.due("takings(" + i + ")", x.takings(i), Check.BAD);
            CHECK.due("times(" + i + ")", x.times(i), Check.BAD);
        }
        CHECK.due("told(-1)", x.told(-1), Check.BAD);
        CHECK.due("told(13)", x.told(13), Check.BAD);
        CHECK.due("price(-1)", x.price(-1), Check.BAD);
        CHECK.due("price(4)", x.price(4), Check.BAD);
        CHECK.due("word(-1, 0)", x.word(-1, 0), Check.BAD);
        CHECK.due("word(5, 0)", x.word(5, 0), Check.BAD);
        CHECK.due("word(1, -1)", x.word(1, -1), Check.BAD);
        CHECK.due("word(4, 21)", x.word(4, 21), 65535);
        CHECK.due("block(-1, 0)", x.block(-1, 0), Check.BAD);
        CHECK.due("block(5, 0)", x.block(5, 0), Check.BAD);
        CHECK.due("block(0, -1)", x.block(0, -1), Check.BAD);
        CHECK.due("block(0, 5)", x.block(0, 5), Check.BAD);
        CHECK.due("records(5)", x.records(5), Check.BAD);
        CHECK.due("record(-1, 0)", x.record(-1, 0), Check.BAD);
        CHECK.due("record(0, -1)", x.record(0, -1), Check.BAD);
        CHECK.due("record(0, 6)", x.record(0, 6), Check.BAD);
        CHECK.due("record(99, 6)", x.record(99, 6), Check.BAD);
        CHECK.due("record(MAX, 0)", x.record(Integer.MAX_VALUE, 0), Check.NONE);
        CHECK.due("takings(-2)", x.takings(-2), Check.BAD);
        CHECK.due("takings(4)", x.takings(4), Check.BAD);
        CHECK.due("times(-1)", x.times(-1), Check.BAD);
        CHECK.due("times(3)", x.times(3), Check.BAD);
        x.off();
        CHECK.due("told(13) when off", x.told(13), Check.BAD);
        CHECK.due("told(-1) when off", x.told(-1), Check.BAD);
    }

    private static void told() {
        TicketJournal x = new TicketJournal();
        x.load(900, 800);
        x.sell(3);
        x.setClock(33);
        x.cut(60);
        x.sell(1);
        x.close();
        CHECK.dueTold(x, 1, 33, 5, 0, 0, 740, 1, 1, 640, 2, 27, 45, 6, Check.BAD);
        x.off();
        CHECK.dueTold(x, 0, 33, -9, -9, -9, -9, -9, -9, 640, 2, 27, 45, 7, Check.BAD);
    }

    private static void block() {
        TicketJournal x = new TicketJournal();
        x.load(900, 800);
        x.close();
        x.cut(1);
        x.close();
        x.start();
        x.close();
        CHECK.due("block(0, 2)", x.block(0, 2), 3);
        CHECK.due("block(0, 3)", x.block(0, 3), 1);
        CHECK.due("block(1, 0)", x.block(1, 0), 0);
        CHECK.due("block(1, 1)", x.block(1, 1), Check.NONE);
        x.close();
        CHECK.due("block(1, 0)", x.block(1, 0), 1);
        CHECK.due("block(1, 1)", x.block(1, 1), 1);
        CHECK.due("block(1, 2)", x.block(1, 2), 1);
        CHECK.due("block(1, 3)", x.block(1, 3), 0);
        CHECK.due("block(1, 4)", x.block(1, 4), 1);
        for (int i = 0; i < 16; i++) {
            x.close();
        }
        CHECK.due("block(0, 1)", x.block(0, 1), 5);
        CHECK.due("block(0, 4)", x.block(0, 4), 1);
        for (int i = 0; i < 3; i++) {
            x.close();
        }
        x.cut(1);
        x.close();
        CHECK.due("block(1, 0) when it is erased", x.block(1, 0), 0);
        CHECK.due("block(1, 2)", x.block(1, 2), 0);
        CHECK.due("block(1, 3)", x.block(1, 3), 0);
        CHECK.due("block(1, 4)", x.block(1, 4), 2);
    }

    private static void records() {
        TicketJournal x = new TicketJournal();
        x.load(900, 800);
        x.sell(0);
        x.sell(1);
        x.cancel();
        x.setClock(10);
        x.close();
        x.sell(2);
        x.cut(3);
        x.sell(2);
        int[] counts = {1, 7, 3, 1, 1, 1, 1};
        for (int kind = -2; kind <= 4; kind++) {
            CHECK.due("records(" + kind + ") when off", x.records(kind), counts[kind + 2]);
        }
        x.start();
        for (int kind = -2; kind <= 4; kind++) {
            CHECK.due("records(" + kind + ")", x.records(kind), counts[kind + 2]);
        }
        CHECK.due("record(6, 3)", x.record(6, 3), 2400);
        CHECK.due("record(7, 3): the torn one does not count", x.record(7, 3), Check.NONE);
        x.close();
        CHECK.dueRecord(x, 7, 7, 3, 10, 400, 2, 0);
    }

    private static void recordsFromTheOldest() {
        TicketJournal x = new TicketJournal();
        for (int i = 0; i < 30; i++) {
            x.pass(1);
            x.close();
        }
        // 20 to 29 stand in the blocks 0 to 2, and 12 to 19 in 3 and 4.
        for (int k = 0; k < 18; k++) {
            int number = 12 + k;
            CHECK.dueRecord(x, k, number, 3, number + 1, 0, number / 4 % 5, number % 4);
        }
        CHECK.due("record(18, 0)", x.record(18, 0), Check.NONE);
        x.close();
        x.close();
        x.cut(1);
        x.close();
        CHECK.due("records(-1) without block 3", x.records(-1), 16);
        CHECK.dueRecord(x, 0, 16, 3, 17, 0, 4, 0);
        CHECK.dueRecord(x, 15, 31, 3, 30, 0, 2, 3);
    }

    private static void takings() {
        TicketJournal x = new TicketJournal();
        x.load(50000, 50000);
        x.sell(0);
        x.sell(1);
        x.sell(3);
        x.cancel();
        x.sell(1);
        x.setPrice(0, 999);
        x.sell(0);
        x.close();
        CHECK.due("takings(0)", x.takings(0), 1149);
        CHECK.due("takings(1)", x.takings(1), 500);
        CHECK.due("takings(2)", x.takings(2), 0);
        CHECK.due("takings(3)", x.takings(3), 0);
        CHECK.due("takings(-1)", x.takings(-1), 1649);
        x = new TicketJournal();
        x.load(50000, 50000);
        x.sell(0);
        x.sell(0);
        x.sell(2);
        x.cancel();
        for (int i = 0; i < 16; i++) {
            x.close();
        }
        CHECK.due("takings(2) when the ticket is gone", x.takings(2), -400);
        CHECK.due("takings(-1)", x.takings(-1), -400);
        CHECK.due("takings(0)", x.takings(0), 0);
        CHECK.due("mean() without tickets", x.mean(), 0.0);
    }

    private static void mean() {
        TicketJournal x = new TicketJournal();
        CHECK.due("mean()", x.mean(), 0.0);
        x.load(1000, 1000);
        CHECK.due("mean()", x.mean(), 0.0);
        x.sell(0);
        CHECK.due("mean()", x.mean(), 150.0);
        x.sell(1);
        x.sell(1);
        CHECK.due("mean()", x.mean(), 650.0f / 3.0f);
        x.cancel();
        CHECK.due("mean(): a cancellation takes nothing away", x.mean(), 650.0f / 3.0f);
        x.off();
        CHECK.due("mean() when off", x.mean(), 650.0f / 3.0f);
    }

    private static void times() {
        TicketJournal x = new TicketJournal();
        x.pass(500);
        x.close();
        CHECK.due("times(1) of one record", x.times(1), 0);
        x.setClock(300);
        x.pass(20);
        x.close();
        x.close();
        x.setClock(100);
        CHECK.due("times(0)", x.times(0), 2);
        CHECK.due("times(1)", x.times(1), 20);
        CHECK.due("times(2)", x.times(2), 0);
    }

    private static void timesBelowZero() {
        TicketJournal x = new TicketJournal();
        x.pass(500);
        x.close();
        x.setClock(400);
        CHECK.due("times(1)", x.times(1), -100);
        x.setClock(399);
        x.close();
        CHECK.due("times(0)", x.times(0), 2);
        CHECK.due("times(1)", x.times(1), -1);
    }

    private static void numberGaps() {
        TicketJournal x = new TicketJournal();
        for (int i = 0; i < 12; i++) {
            x.close();
        }
        CHECK.due("times(2)", x.times(2), 0);
        // A torn record leaves no gap: the next one has its number again.
        x.cut(9);
        x.close();
        x.start();
        x.close();
        CHECK.due("times(2)", x.times(2), 0);
        // The oldest block goes, and the records begin later, without a gap.
        for (int i = 0; i < 10; i++) {
            x.close();
        }
        CHECK.due("record(0, 0)", x.record(0, 0), 4);
        CHECK.due("times(2)", x.times(2), 0);
    }

    private static void readingChangesNothing() {
        TicketJournal x = new TicketJournal();
        x.load(1000, 70);
        x.sell(0);
        x.cut(20);
        for (int i = 0; i < 2; i++) {
            CHECK.due("records(0)", x.records(0), 1);
            CHECK.due("operations(0)", x.operations(0), 8);
            CHECK.due("after(0, 2, 0)", x.after(0, 2, 0), 2);
            CHECK.due("needed(0)", x.needed(0), 4);
            CHECK.due("keep(0)", x.keep(0), 2);
            CHECK.dueTold(x, 1, 0, 2, 150, 1, 960, 0, 2, 30, 1, 8, 20, 3);
            CHECK.dueWords(x, 0, 14, 65535, 65535, 65535, 65535, 65535);
            x.close();
            x.undo();
        }
    }
}
