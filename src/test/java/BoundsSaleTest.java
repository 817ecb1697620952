/** Promises 2 to 4, sentence by sentence where one names a boundary. */
public final class BoundsSaleTest {
    private static final Check CHECK = new Check();
    private static final int ERASED = 65535;

    public static void main(String[] args) {
        sellNoSuchSort();
        sellWhenOff();
        sellAboveTheGreatestSum();
        sellOutOfPaper();
        sellWithPaperThatIsThere();
        sellWithoutPaperThatIsThere();
        sellSpoiltTakesAway();
        sellSpoiltIntoTheNextBlock();
        sellReturnsTheTicketsNumber();
        sellIsAChange();
        sellCutInItsTicket();
        sellCutInANewBlock();
        sellCutInItsCancellation();
        sellCutBetweenTheBlocks();
        sellCutBehindTheNewBlock();
        cancelWhenOff();
        cancelAtPlaceZero();
        cancelBehindATornRecord();
        cancelBehindOtherKinds();
        cancelAtTheFirstAndTheLastPlace();
        cancelReturnsThePrice();
        cancelTakesNoPaperBack();
        cancelCut();
        cancelBehindACutSale();
        closeReturnsTheSum();
        closeWhenOff();
        closeCut();
        CHECK.end("BoundsSaleTest");
    }

    // sell

    private static void sellNoSuchSort() {
        CHECK.sentence("2 sell: BAD if there is no such sort");
        for (int sort : Check.outside(0, 3)) {
            CHECK.dueRefused("sell(" + sort + ")", x -> x.load(1000, 1000), x -> x.sell(sort), Check.BAD);
            CHECK.dueRefused("sell(" + sort + ") when off", Given::loadedAndOff, x -> x.sell(sort), Check.BAD);
        }
        for (int sort = 0; sort <= 3; sort++) {
            CHECK.due("sell(" + sort + ")", Given.loaded(100, 100).sell(sort), 1);
        }
    }

    private static void sellWhenOff() {
        CHECK.sentence("2 sell: STATE if the power is off");
        CHECK.dueRefused("sell(0)", Given::loadedAndOff, x -> x.sell(0), Check.STATE);
        CHECK.dueRefused("sell(0) without paper", x -> x.off(), x -> x.sell(0), Check.STATE);
        CHECK.dueRefused("sell(0) behind a cut", x -> {
            x.load(1000, 1000);
            x.cut(0);
            x.sell(0);
        }, x -> x.sell(0), Check.STATE);
    }

    private static void sellAboveTheGreatestSum() {
        CHECK.sentence("2 sell: STATE if the sum would be above 60000");
        CHECK.dueRefused("sell(0) at 60000", x -> {
            Given.fullDay(x);
            x.setPrice(0, 1);
        }, x -> x.sell(0), Check.STATE);
        CHECK.dueRefused("sell(1) of 2 at 59999", x -> {
            Given.nearlyFullDay(x);
            x.setPrice(1, 2);
        }, x -> x.sell(1), Check.STATE);
        CHECK.dueRefused("sell(0) at 60000, without paper", x -> {
            Given.fullDay(x);
            x.load(39, 0);
        }, x -> x.sell(0), Check.STATE);
        TicketJournal x = new TicketJournal();
        Given.nearlyFullDay(x);
        x.setPrice(1, 1);
        CHECK.due("told(3)", x.told(3), 59999);
        CHECK.due("sell(1) of 1 at 59999", x.sell(1), 76);
        CHECK.due("told(3)", x.told(3), 60000);
        CHECK.due("cancel()", x.cancel(), 1);
        CHECK.due("sell(1) when there is room again", x.sell(1), 78);
        x.close();
        CHECK.due("sell(3) on the next day", x.sell(3), 80);
    }

    private static void sellOutOfPaper() {
        CHECK.sentence("2 sell: OUT if the paper by the count is shorter than the ticket");
        for (int i = 0; i < 4; i++) {
            int sort = i;
            int length = Given.LENGTHS[i];
            CHECK.dueRefused("sell(" + sort + ") with 1 too little", x -> x.load(length - 1, 50000),
                    x -> x.sell(sort), Check.OUT);
            CHECK.dueRefused("sell(" + sort + ") with none", x -> x.load(0, 50000), x -> x.sell(sort), Check.OUT);
            TicketJournal x = Given.loaded(length, 50000);
            CHECK.due("sell(" + sort + ") with just enough", x.sell(sort), 1);
            CHECK.due("told(5)", x.told(5), 0);
            CHECK.due("sell(0) with none", x.sell(0), Check.OUT);
            x.off();
            x.start();
            CHECK.due("told(5) behind a start", x.told(5), 0);
            CHECK.due("sell(0) with none", x.sell(0), Check.OUT);
        }
        CHECK.dueRefused("sell(0) of a new printer", x -> { }, x -> x.sell(0), Check.OUT);
        TicketJournal x = Given.loaded(100, 100);
        x.sell(2);
        CHECK.due("sell(0) with 20 of 100", x.sell(0), Check.OUT);
    }

    private static void sellWithPaperThatIsThere() {
        CHECK.sentence("2 sell: if the paper that is really there is long enough, its length is taken from it");
        for (int sort = 0; sort < 4; sort++) {
            int length = Given.LENGTHS[sort];
            TicketJournal x = Given.loaded(500, length);
            CHECK.due("sell(" + sort + ") with just enough", x.sell(sort), 1);
            CHECK.dueTold(x, 1, 0, 2, Given.PRICES[sort], 1, 500 - length, 0, 2, 0, 1, 8);
            x = Given.loaded(500, length + 1);
            x.sell(sort);
            CHECK.due("told(8) with 1 more", x.told(8), 1);
            CHECK.due("told(9)", x.told(9), 1);
        }
    }

    private static void sellWithoutPaperThatIsThere() {
        CHECK.sentence("2 sell: otherwise this paper is 0 then, a record of the kind 1 is written for this ticket");
        for (int sort = 0; sort < 4; sort++) {
            int length = Given.LENGTHS[sort];
            int value = 1000 * sort + Given.PRICES[sort];
            for (int there = 0; there < length; there += length - 1) {
                TicketJournal x = Given.loaded(500, there);
                CHECK.due("sell(" + sort + ") with " + there, x.sell(sort), 1);
                CHECK.due("told(8)", x.told(8), 0);
                CHECK.due("told(9)", x.told(9), 0);
                CHECK.dueRecord(x, 1, 1, 0, 0, value, 0, 1);
                CHECK.dueRecord(x, 2, 2, 1, 0, value, 0, 2);
                CHECK.due("told(10)", x.told(10), 12);
            }
        }
    }

    private static void sellSpoiltTakesAway() {
        CHECK.sentence("2 sell: the price and the 1 are taken away again");
        TicketJournal x = Given.loaded(140, 100);
        CHECK.due("sell(3)", x.sell(3), 1);
        CHECK.dueTold(x, 1, 0, 2, 800, 1, 40, 0, 2, 0, 1);
        CHECK.due("sell(0), spoilt", x.sell(0), 2);
        CHECK.dueTold(x, 1, 0, 4, 800, 1, 0, 0, 4, 0, 1);
        x.off();
        CHECK.due("start()", x.start(), 4);
        CHECK.dueTold(x, 1, 0, 4, 800, 1, 0, 0, 4, 0, 1);
    }

    private static void sellSpoiltIntoTheNextBlock() {
        CHECK.sentence("2 sell: a record of the kind 1 is written for this ticket (at next place 4)");
        TicketJournal x = Given.loaded(1000, 39);
        Given.close(x, 2);
        CHECK.due("sell(0) at place 3", x.sell(0), 3);
        CHECK.dueTold(x, 1, 0, 5, 0, 0, 960, 1, 1, 0, 0, 4 * 4 + 7 + 4);
        CHECK.dueWords(x, 1, 0, 1, 150, 1, 960, 4);
        CHECK.dueRecord(x, 4, 4, 1, 0, 150, 1, 0);
        x.off();
        x.start();
        CHECK.dueTold(x, 1, 0, 5, 0, 0, 960, 1, 1);
    }

    private static void sellReturnsTheTicketsNumber() {
        CHECK.sentence("2 sell: Returns the number of the record of the ticket");
        TicketJournal x = new TicketJournal();
        x.load(1000, 0);
        for (int i = 0; i < 6; i++) {
            CHECK.due("sell(0), spoilt", x.sell(0), 1 + 2 * i);
            CHECK.due("told(2)", x.told(2), 3 + 2 * i);
        }
    }

    private static void sellIsAChange() {
        CHECK.sentence("2 sell: This is a change");
        CHECK.dueChange("sell(1)", x -> x.load(60, 60), x -> x.sell(1), 1);
        CHECK.dueChange("sell(1), spoilt", x -> x.load(60, 59), x -> x.sell(1), 1);
        CHECK.dueChange("sell(0) that begins block 0", x -> {
            x.load(60, 60);
            Given.close(x, 20);
            x.undo();
        }, x -> x.sell(0), 20);
    }

    private static void sellCutInItsTicket() {
        CHECK.sentence("2 sell: CUT if the power was lost (in the record of the ticket)");
        int[] words = {1, 0, 150, 3 + 7 * 150 + 2};
        for (int n = 0; n < 4; n++) {
            TicketJournal x = Given.loaded(1000, 39);
            x.cut(n);
            CHECK.due("sell(0), cut(" + n + ")", x.sell(0), Check.CUT);
            CHECK.dueTold(x, 0, 0, -9, -9, -9, -9, -9, -9, 39, 0, 4 + n, Check.NONE, 3);
            for (int k = 0; k < 4; k++) {
                CHECK.dueWords(x, 0, 10 + k, k < n ? words[k] : ERASED);
            }
            CHECK.due("start()", x.start(), 1);
            CHECK.dueTold(x, 1, 0, 1, 0, 0, 1000, 0, n == 0 ? 1 : 2, 39, 0);
        }
    }

    private static void sellCutInANewBlock() {
        CHECK.sentence("2 sell: CUT if the power was lost (where a block is begun)");
        for (int n = 0; n < 11; n++) {
            TicketJournal x = Given.loaded(1000, 1000);
            Given.close(x, 3);
            x.cut(n);
            CHECK.due("sell(1), cut(" + n + ")", x.sell(1), Check.CUT);
            CHECK.due("told(10)", x.told(10), 16 + n);
            CHECK.due("told(8)", x.told(8), 1000);
            CHECK.dueBlock(x, 1, n < 7 ? 0 : 1, n < 7 ? Check.NONE : 1, 0, n < 8 ? 0 : 1, n == 0 ? 0 : 1);
            CHECK.due("start()", x.start(), 4);
            CHECK.dueTold(x, 1, 0, 4, 0, 0, 1000, n < 7 ? 0 : 1, n < 7 ? 4 : n == 7 ? 0 : 1, 1000, 0);
        }
    }

    private static void sellCutInItsCancellation() {
        CHECK.sentence("2 sell: CUT if the power was lost (in the cancellation)");
        for (int n = 4; n <= 8; n++) {
            TicketJournal x = Given.loaded(1000, 39);
            x.cut(n);
            CHECK.due("sell(0), cut(" + n + ")", x.sell(0), n == 8 ? 1 : Check.CUT);
            CHECK.due("told(8)", x.told(8), 0);
            CHECK.due("told(9)", x.told(9), 0);
            CHECK.due("told(10)", x.told(10), 4 + n);
            CHECK.due("told(11)", x.told(11), n == 8 ? 0 : Check.NONE);
            CHECK.due("start()", x.start(), n == 8 ? Check.STATE : 2);
            CHECK.dueTold(x, 1, 0, n == 8 ? 3 : 2, n == 8 ? 0 : 150, n == 8 ? 0 : 1, 960, 0, n == 4 ? 2 : 3);
        }
    }

    private static void sellCutBetweenTheBlocks() {
        CHECK.sentence("2 sell: CUT if the power was lost (ticket at place 3, cancellation in the next block)");
        for (int n = 4; n <= 15; n++) {
            TicketJournal x = Given.loaded(1000, 39);
            Given.close(x, 2);
            x.cut(n);
            CHECK.due("sell(0), cut(" + n + ")", x.sell(0), n == 15 ? 3 : Check.CUT);
            CHECK.due("told(10)", x.told(10), 12 + n);
            CHECK.due("start()", x.start(), n == 15 ? Check.STATE : 4);
            CHECK.dueTold(x, 1, 0, n == 15 ? 5 : 4, n == 15 ? 0 : 150, n == 15 ? 0 : 1, 960,
                    n < 11 ? 0 : 1, n < 11 ? 4 : n == 11 ? 0 : 1, 0, 0);
        }
    }

    private static void sellCutBehindTheNewBlock() {
        CHECK.sentence("2 sell: CUT if the power was lost (ticket at place 0 of a new block, and its cancellation)");
        for (int n = 11; n <= 15; n++) {
            TicketJournal x = Given.loaded(1000, 39);
            Given.close(x, 3);
            x.cut(n);
            CHECK.due("sell(0), cut(" + n + ")", x.sell(0), n == 15 ? 4 : Check.CUT);
            CHECK.due("start()", x.start(), n == 15 ? Check.STATE : 5);
            CHECK.dueTold(x, 1, 0, n == 15 ? 6 : 5, n == 15 ? 0 : 150, n == 15 ? 0 : 1, 960, 1, n == 11 ? 1 : 2);
        }
    }

    // cancel

    private static void sold(TicketJournal x) {
        x.load(1000, 1000);
        x.sell(1);
    }

    private static void cancelWhenOff() {
        CHECK.sentence("3 cancel: STATE if the power is off");
        CHECK.dueRefused("cancel()", x -> {
            sold(x);
            x.off();
        }, x -> x.cancel(), Check.STATE);
        CHECK.dueRefused("cancel() behind a cut", x -> {
            sold(x);
            Given.closeCut(x, 0);
        }, x -> x.cancel(), Check.STATE);
    }

    private static void cancelAtPlaceZero() {
        CHECK.sentence("3 cancel: it does not if the next place is 0");
        CHECK.dueRefused("cancel() of a new printer", x -> { }, x -> x.cancel(), Check.STATE);
        // The ticket stands at place 3 of block 0; block 1 is begun and has no record.
        CHECK.dueRefused("cancel() behind six words", x -> {
            x.load(1000, 1000);
            Given.close(x, 2);
            x.sell(1);
            Given.closeCut(x, 7);
            x.start();
        }, x -> x.cancel(), Check.STATE);
    }

    private static void cancelBehindATornRecord() {
        CHECK.sentence("3 cancel: or if a torn record is there, whatever stands ahead of it");
        for (int i = 1; i <= 3; i++) {
            int operations = i;
            CHECK.dueRefused("cancel() behind a record of " + i + " words", x -> {
                sold(x);
                Given.closeCut(x, operations);
                x.start();
            }, x -> x.cancel(), Check.STATE);
            CHECK.dueRefused("cancel() behind a ticket of " + i + " words", x -> {
                sold(x);
                x.cut(operations);
                x.sell(1);
                x.start();
            }, x -> x.cancel(), Check.STATE);
        }
        CHECK.dueRefused("cancel() of a torn ticket at place 3", x -> {
            sold(x);
            x.sell(1);
            x.cut(3);
            x.sell(1);
            x.start();
        }, x -> x.cancel(), Check.STATE);
        TicketJournal x = new TicketJournal();
        sold(x);
        Given.closeCut(x, 1);
        x.start();
        x.sell(2);
        CHECK.due("cancel() of a ticket behind a torn record", x.cancel(), 400);
    }

    private static void cancelBehindOtherKinds() {
        CHECK.sentence("3 cancel: Cancels the latest record, which must be a ticket");
        CHECK.dueRefused("cancel() behind a cancellation", x -> {
            sold(x);
            x.cancel();
        }, x -> x.cancel(), Check.STATE);
        CHECK.dueRefused("cancel() behind a spoilt ticket", x -> {
            x.load(1000, 10);
            x.sell(1);
        }, x -> x.cancel(), Check.STATE);
        CHECK.dueRefused("cancel() behind a clock step", x -> {
            sold(x);
            x.setClock(5);
        }, x -> x.cancel(), Check.STATE);
        CHECK.dueRefused("cancel() behind a close", x -> {
            sold(x);
            x.close();
        }, x -> x.cancel(), Check.STATE);
        CHECK.dueRefused("cancel() behind paper", x -> {
            sold(x);
            x.load(1, 1);
        }, x -> x.cancel(), Check.STATE);
        TicketJournal x = new TicketJournal();
        sold(x);
        x.setClock(4);
        CHECK.due("cancel() behind a clock set without a record", x.cancel(), 250);
    }

    private static void cancelAtTheFirstAndTheLastPlace() {
        CHECK.sentence("3 cancel: the place before the next one in the current block");
        for (int place = 0; place < 4; place++) {
            TicketJournal x = Given.loaded(1000, 1000);
            Given.close(x, 3 + place);
            CHECK.due("sell(1)", x.sell(1), 4 + place);
            CHECK.due("told(7)", x.told(7), place + 1);
            CHECK.due("cancel() of the ticket at place " + place, x.cancel(), 250);
            CHECK.dueRecord(x, 5 + place, 5 + place, 1, 0, 1250, place == 3 ? 2 : 1, (place + 1) % 4);
            CHECK.dueTold(x, 1, 0, 6 + place, 0, 0, 940);
        }
        // Sold, and the power off and on: the ticket is the latest record still.
        TicketJournal x = new TicketJournal();
        sold(x);
        x.off();
        x.start();
        CHECK.due("cancel() behind a start", x.cancel(), 250);
    }

    private static void cancelReturnsThePrice() {
        CHECK.sentence("3 cancel: Returns the price");
        for (int price = 1; price <= 999; price += 998) {
            TicketJournal x = Given.loaded(1000, 1000);
            x.setPrice(3, price);
            x.sell(3);
            x.setPrice(3, 500);
            CHECK.due("cancel()", x.cancel(), price);
            CHECK.due("told(3)", x.told(3), 0);
            CHECK.due("told(4)", x.told(4), 0);
            CHECK.dueRecord(x, 2, 2, 1, 0, 3000 + price);
        }
        CHECK.sentence("3 cancel: This is a change");
        CHECK.dueChange("cancel()", BoundsSaleTest::sold, x -> x.cancel(), 250);
    }

    private static void cancelTakesNoPaperBack() {
        CHECK.sentence("3 cancel: then the price is taken from the sum, and 1 from the number of tickets");
        TicketJournal x = Given.loaded(60, 60);
        x.sell(1);
        x.cancel();
        CHECK.dueTold(x, 1, 0, 3, 0, 0, 0, 0, 3, 0, 1, 12);
        CHECK.due("sell(0)", x.sell(0), Check.OUT);
        x.off();
        x.start();
        CHECK.dueTold(x, 1, 0, 3, 0, 0, 0, 0, 3, 0, 1, 12);
    }

    private static void cancelCut() {
        CHECK.sentence("3 cancel: CUT if the power was lost");
        for (int n = 0; n <= 4; n++) {
            TicketJournal x = new TicketJournal();
            sold(x);
            x.cut(n);
            CHECK.due("cancel(), cut(" + n + ")", x.cancel(), n == 4 ? 250 : Check.CUT);
            CHECK.due("told(10)", x.told(10), 8 + n);
            CHECK.due("start()", x.start(), n == 4 ? Check.STATE : 2);
            CHECK.dueTold(x, 1, 0, n == 4 ? 3 : 2, n == 4 ? 0 : 250, n == 4 ? 0 : 1, 940, 0, n == 0 ? 2 : 3);
        }
        for (int n = 0; n <= 11; n++) {
            TicketJournal x = Given.loaded(1000, 1000);
            Given.close(x, 2);
            x.sell(1);
            x.cut(n);
            CHECK.due("cancel() into the next block, cut(" + n + ")", x.cancel(), n == 11 ? 250 : Check.CUT);
            CHECK.due("start()", x.start(), n == 11 ? Check.STATE : 4);
            CHECK.dueTold(x, 1, 0, n == 11 ? 5 : 4, n == 11 ? 0 : 250, n == 11 ? 0 : 1, 940,
                    n < 7 ? 0 : 1, n < 7 ? 4 : n == 7 ? 0 : 1);
            CHECK.due("cancel() again", x.cancel(), n < 7 ? 250 : Check.STATE);
        }
    }

    private static void cancelBehindACutSale() {
        CHECK.sentence("3 cancel: does not hold a whole ticket");
        TicketJournal x = Given.loaded(1000, 10);
        x.cut(4);
        CHECK.due("sell(1), whole, but not its cancellation", x.sell(1), Check.CUT);
        x.start();
        CHECK.due("cancel()", x.cancel(), 250);
        CHECK.dueTold(x, 1, 0, 3, 0, 0, 940, 0, 3, 0, 0);
        x = Given.loaded(1000, 10);
        x.cut(5);
        CHECK.due("sell(1), its cancellation torn", x.sell(1), Check.CUT);
        x.start();
        CHECK.due("cancel()", x.cancel(), Check.STATE);
        CHECK.due("told(3)", x.told(3), 250);
    }

    // close

    private static void closeReturnsTheSum() {
        CHECK.sentence("4 close: Returns the sum that it was");
        TicketJournal x = new TicketJournal();
        CHECK.due("close() of an empty day", x.close(), 0);
        CHECK.dueRecord(x, 0, 0, 3, 0, 0, 0, 0);
        x = new TicketJournal();
        Given.fullDay(x);
        CHECK.due("close() of a full day", x.close(), 60000);
        CHECK.sentence("4 close: then the sum and the number of tickets are 0");
        CHECK.dueTold(x, 1, 0, 77, 0, 0, 42500);
        x.off();
        x.start();
        CHECK.dueTold(x, 1, 0, 77, 0, 0, 42500);
        CHECK.due("close() again", x.close(), 0);
        CHECK.sentence("4 close: This is a change");
        CHECK.dueChange("close()", BoundsSaleTest::sold, y -> y.close(), 250);
        CHECK.dueChange("close() of an empty day", y -> { }, y -> y.close(), 0);
    }

    private static void closeWhenOff() {
        CHECK.sentence("4 close: STATE if the power is off");
        CHECK.dueRefused("close()", Given::loadedAndOff, x -> x.close(), Check.STATE);
        CHECK.dueRefused("close() behind a cut", x -> {
            sold(x);
            Given.closeCut(x, 1);
        }, x -> x.close(), Check.STATE);
    }

    private static void closeCut() {
        CHECK.sentence("4 close: CUT if the power was lost");
        for (int n = 0; n <= 4; n++) {
            TicketJournal x = new TicketJournal();
            sold(x);
            x.cut(n);
            CHECK.due("close(), cut(" + n + ")", x.close(), n == 4 ? 250 : Check.CUT);
            CHECK.due("start()", x.start(), n == 4 ? Check.STATE : 2);
            CHECK.dueTold(x, 1, 0, n == 4 ? 3 : 2, n == 4 ? 0 : 250, n == 4 ? 0 : 1, 940);
        }
        for (int n = 0; n <= 11; n++) {
            TicketJournal x = new TicketJournal();
            sold(x);
            x.sell(1);
            x.sell(1);
            x.cut(n);
            CHECK.due("close() into the next block, cut(" + n + ")", x.close(), n == 11 ? 750 : Check.CUT);
            CHECK.due("start()", x.start(), n == 11 ? Check.STATE : 4);
            CHECK.dueTold(x, 1, 0, n == 11 ? 5 : 4, n == 11 ? 0 : 750, n == 11 ? 0 : 3, 820);
        }
    }
}
