/** Promises 1 to 4: a new object, sell, cancel, close. */
public final class SaleTest {
    private static final Check CHECK = new Check();

    public static void main(String[] args) {
        newObject();
        sell();
        sellIntoTheNextBlock();
        sellWithTooLittlePaper();
        sellRefused();
        sellUpToTheGreatestSum();
        sellCut();
        cancel();
        cancelRefused();
        cancelBehindTornOnes();
        cancelCut();
        close();
        closeRefusedAndCut();
        CHECK.end("SaleTest");
    }

    private static void newObject() {
        TicketJournal x = new TicketJournal();
        CHECK.dueTold(x, 1, 0, 0, 0, 0, 0, 0, 0, 0, 0, 0, Check.NONE, 0);
        CHECK.dueWords(x, 0, 0, 0, 0, 0, 0, 0, 1);
        for (int block = 0; block < 5; block++) {
            for (int k = block == 0 ? 6 : 0; k < 22; k++) {
                CHECK.dueWords(x, block, k, 65535);
            }
            CHECK.due("block(" + block + ", 4)", x.block(block, 4), 0);
        }
        CHECK.due("back(0)", x.back(0), Check.STATE);
        CHECK.due("back(1)", x.back(1), Check.STATE);
        CHECK.due("undo()", x.undo(), Check.STATE);
        CHECK.due("start()", x.start(), Check.STATE);
        int[] prices = {150, 250, 400, 800};
        for (int sort = 0; sort < 4; sort++) {
            CHECK.due("price(" + sort + ")", x.price(sort), prices[sort]);
        }
    }

    private static void sell() {
        TicketJournal x = new TicketJournal();
        x.load(1000, 900);
        x.pass(77);
        CHECK.due("sell(2)", x.sell(2), 1);
        CHECK.dueTold(x, 1, 77, 2, 400, 1, 920, 0, 2, 820, 1, 8, Check.NONE, 3);
        CHECK.dueWords(x, 0, 10, 1, 77, 2400, 3 + 5 * 77 + 7 * 2400 + 2);
        CHECK.due("sell(0)", x.sell(0), 2);
        CHECK.due("sell(1)", x.sell(1), 3);
        CHECK.dueTold(x, 1, 77, 4, 800, 3, 820, 0, 4, 720, 3, 16);
        CHECK.dueRecord(x, 2, 2, 0, 77, 150, 0, 2);
        CHECK.dueRecord(x, 3, 3, 0, 77, 1250, 0, 3);
    }

    private static void sellIntoTheNextBlock() {
        TicketJournal x = new TicketJournal();
        x.load(1000, 900);
        x.sell(0);
        x.sell(1);
        x.sell(2);
        CHECK.due("sell(3)", x.sell(3), 4);
        // 3 * 1 + 5 * 800 + 7 * 3 + 11 * 820 + 13 * 4 + 1
        CHECK.dueWords(x, 1, 0, 1, 800, 3, 820, 4, 13097, 4, 0, 3800, 12 + 7 * 3800 + 11 + 2, 65535);
        CHECK.dueTold(x, 1, 0, 5, 1600, 4, 720, 1, 1, 620, 4, 27);
        CHECK.due("block(1, 4)", x.block(1, 4), 1);
    }

    private static void sellWithTooLittlePaper() {
        TicketJournal x = new TicketJournal();
        x.load(500, 100);
        CHECK.due("sell(1)", x.sell(1), 1);
        CHECK.due("sell(0)", x.sell(0), 2);
        CHECK.dueTold(x, 1, 0, 3, 400, 2, 400, 0, 3, 0, 2);
        CHECK.due("sell(0)", x.sell(0), 3);
        // The cancellation begins a block, and that tells of the ticket.
        CHECK.dueTold(x, 1, 0, 5, 400, 2, 360, 1, 1, 0, 2, 27);
        CHECK.dueWords(x, 1, 0, 1, 550, 3, 360, 4);
        CHECK.dueRecord(x, 4, 4, 1, 0, 150, 1, 0);
        x.load(500, 99);
        x.sell(3);
        CHECK.due("told(8): the rest of the paper is spoilt", x.told(8), 0);
        CHECK.due("told(5): the paper stays taken", x.told(5), 400);
        CHECK.due("told(3)", x.told(3), 400);
        CHECK.due("told(9)", x.told(9), 2);
        x.load(500, 100);
        x.sell(3);
        CHECK.due("told(9): just enough", x.told(9), 3);
        CHECK.due("told(8)", x.told(8), 0);
    }

    private static void sellRefused() {
        TicketJournal x = new TicketJournal();
        CHECK.due("sell(-1)", x.sell(-1), Check.BAD);
        CHECK.due("sell(4)", x.sell(4), Check.BAD);
        CHECK.due("sell(MIN)", x.sell(Integer.MIN_VALUE), Check.BAD);
        CHECK.due("sell(MAX)", x.sell(Integer.MAX_VALUE), Check.BAD);
        CHECK.due("sell(0)", x.sell(0), Check.OUT);
        int[] lengths = {40, 60, 80, 100};
        for (int sort = 0; sort < 4; sort++) {
            x.load(lengths[sort] - 1, 500);
            CHECK.due("sell(" + sort + ") with 1 too little", x.sell(sort), Check.OUT);
            x.load(lengths[sort], 500);
            CHECK.due("sell(" + sort + ") with just enough", x.sell(sort), 3 * sort + 2);
            CHECK.due("told(5)", x.told(5), 0);
        }
        x.off();
        CHECK.due("sell(0) when off, without paper", x.sell(0), Check.STATE);
        CHECK.due("sell(4) when off", x.sell(4), Check.BAD);
        CHECK.due("told(10): refused ones do nothing", x.told(10), 12 * 4 + 2 * 7);
    }

    private static void sellUpToTheGreatestSum() {
        TicketJournal x = new TicketJournal();
        x.load(50000, 50000);
        for (int i = 0; i < 75; i++) {
            CHECK.due("sell(3)", x.sell(3), i + 1);
        }
        CHECK.due("told(3)", x.told(3), 60000);
        x.setPrice(0, 1);
        CHECK.due("sell(0) above 60000", x.sell(0), Check.STATE);
        x.load(0, 0);
        CHECK.due("sell(0) above 60000, without paper", x.sell(0), Check.STATE);
        CHECK.due("close()", x.close(), 60000);
        CHECK.due("sell(0) without paper", x.sell(0), Check.OUT);
    }

    private static void sellCut() {
        TicketJournal x = new TicketJournal();
        x.load(1000, 1000);
        x.cut(3);
        CHECK.due("sell(0)", x.sell(0), Check.CUT);
        CHECK.dueTold(x, 0, 0, -9, -9, -9, -9, -9, -9, 1000, 0, 7, Check.NONE, 3);
        CHECK.dueWords(x, 0, 10, 1, 0, 150, 65535);
        CHECK.due("undo()", x.undo(), 2);
        CHECK.dueTold(x, 1, 0, 1, 0, 0, 1000, 0, 1, 1000, 0, 4, 3);
        x.cut(4);
        CHECK.due("sell(0) with just enough", x.sell(0), 1);
        CHECK.dueTold(x, 1, 0, 2, 150, 1, 960, 0, 2, 960, 1, 8, 0);
        x.load(40, 39);
        CHECK.due("told(0): the cut came", x.told(0), 0);
        CHECK.due("told(8): first the paper was there", x.told(8), 39);
        x.start();
        x.load(40, 39);
        x.cut(6);
        CHECK.due("sell(0), cut in the cancellation", x.sell(0), Check.CUT);
        CHECK.due("told(8)", x.told(8), 0);
        CHECK.due("start(): the ticket stays", x.start(), 4);
        CHECK.dueTold(x, 1, 0, 4, 300, 2, 0, 0, 4, 0, 1);
    }

    private static void cancel() {
        TicketJournal x = new TicketJournal();
        x.load(1000, 1000);
        x.sell(2);
        x.sell(1);
        x.pass(9);
        x.setPrice(1, 7);
        CHECK.due("cancel(): the price that it had", x.cancel(), 250);
        CHECK.dueTold(x, 1, 9, 4, 400, 1, 860, 0, 4, 860, 2, 16);
        CHECK.dueRecord(x, 3, 3, 1, 9, 1250, 0, 3);
        x = new TicketJournal();
        x.load(1000, 1000);
        x.sell(0);
        x.sell(0);
        x.sell(3);
        CHECK.due("cancel() into the next block", x.cancel(), 800);
        CHECK.dueWords(x, 1, 0, 1, 1100, 3, 820, 4);
        CHECK.dueTold(x, 1, 0, 5, 300, 2, 820, 1, 1, 820, 3, 27);
        CHECK.due("told(12)", x.told(12), 5);
        CHECK.due("undo()", x.undo(), 4);
        CHECK.dueTold(x, 1, 0, 4, 1100, 3, 820, 0, 4, 820, 3, 16);
        x.close();
        x.undo();
        x.load(820, 820);
        x.close();
        x.close();
        x.close();
        x.sell(1);
        CHECK.due("told(7)", x.told(7), 1);
        CHECK.due("cancel() of the ticket at place 0", x.cancel(), 250);
        CHECK.due("told(4)", x.told(4), 0);
    }

    private static void cancelRefused() {
        TicketJournal x = new TicketJournal();
        CHECK.due("cancel() with an empty journal", x.cancel(), Check.STATE);
        x.load(1000, 1000);
        CHECK.due("cancel() behind paper", x.cancel(), Check.STATE);
        x.sell(0);
        x.off();
        CHECK.due("cancel() when off", x.cancel(), Check.STATE);
        x.start();
        CHECK.due("cancel()", x.cancel(), 150);
        CHECK.due("cancel() again", x.cancel(), Check.STATE);
        x.sell(0);
        x.close();
        CHECK.due("cancel() behind a close", x.cancel(), Check.STATE);
        x.sell(0);
        x.setClock(5);
        CHECK.due("cancel() behind a clock step", x.cancel(), Check.STATE);
        CHECK.due("told(12): refused ones are no changes", x.told(12), 8);
    }

    private static void cancelBehindTornOnes() {
        TicketJournal x = new TicketJournal();
        x.load(1000, 1000);
        x.sell(0);
        x.cut(1);
        CHECK.due("cancel()", x.cancel(), Check.CUT);
        x.start();
        CHECK.due("told(7)", x.told(7), 3);
        CHECK.due("cancel() behind a torn record", x.cancel(), Check.STATE);
        x.sell(0);
        x.cut(7);
        CHECK.due("cancel() cut behind the header", x.cancel(), Check.CUT);
        x.start();
        CHECK.dueTold(x, 1, 0, 3, 300, 2, 920, 1, 0);
        CHECK.due("cancel() with next place 0", x.cancel(), Check.STATE);
    }

    private static void cancelCut() {
        TicketJournal x = new TicketJournal();
        x.load(1000, 1000);
        x.sell(0);
        x.sell(1);
        x.sell(2);
        x.cut(0);
        CHECK.due("cancel()", x.cancel(), Check.CUT);
        CHECK.due("told(10)", x.told(10), 16);
        CHECK.due("start()", x.start(), 4);
        x.cut(6);
        CHECK.due("cancel() cut in the header", x.cancel(), Check.CUT);
        CHECK.due("start()", x.start(), 4);
        CHECK.dueTold(x, 1, 0, 4, 800, 3, 820, 0, 4);
        CHECK.due("cancel(): the ticket is still the latest record", x.cancel(), 400);
        CHECK.due("block(1, 4)", x.block(1, 4), 2);
    }

    private static void close() {
        TicketJournal x = new TicketJournal();
        CHECK.due("close() of an empty day", x.close(), 0);
        x.load(1000, 1000);
        x.sell(3);
        x.sell(1);
        x.pass(3);
        CHECK.due("close()", x.close(), 1050);
        CHECK.dueTold(x, 1, 3, 5, 0, 0, 840, 1, 1, 840, 2, 27);
        CHECK.dueWords(x, 1, 0, 1, 1050, 2, 840, 4);
        CHECK.dueRecord(x, 4, 4, 3, 3, 1050, 1, 0);
        // 3 * 30004 + 5 * 3 + 7 * 1050 + 11 * 1 + 2 is 97390: the check wraps.
        CHECK.dueWords(x, 1, 6, 30004, 3, 1050, 97390 - 65521);
        CHECK.due("close() again", x.close(), 0);
    }

    private static void closeRefusedAndCut() {
        TicketJournal x = new TicketJournal();
        x.load(1000, 1000);
        x.sell(3);
        x.cut(2);
        CHECK.due("close()", x.close(), Check.CUT);
        CHECK.due("close() when off", x.close(), Check.STATE);
        x.start();
        CHECK.due("told(3)", x.told(3), 800);
        CHECK.due("close()", x.close(), 800);
    }
}
