/** Promises 5 to 12, sentence by sentence where one names a boundary. */
public final class BoundsPrinterTest {
    private static final Check CHECK = new Check();
    private static final int ERASED = 65535;

    public static void main(String[] args) {
        loadOutOfRange();
        loadAtTheEnds();
        loadWhenOff();
        loadCut();
        setClockOutOfRange();
        setClockWhenOff();
        setClockByFive();
        setClockAtTheEnds();
        setClockCut();
        passOutOfRange();
        passStaysAtTheEnd();
        passWhenOff();
        setPriceOutOfRange();
        setPriceAtTheEnds();
        cutOutOfRange();
        cutAtTheEnds();
        cutInPlaceOfOne();
        cutWhenOff();
        offWhenOff();
        offCountsWholeRecords();
        offLeavesTheCut();
        startWhenOn();
        startReturnsTheNextNumber();
        startDoesNoOperations();
        startReadsEachKind();
        startReadsTheLatestBlockAlone();
        undoOfNothing();
        undoReturnsHowMany();
        undoIsNoChange();
        undoLeavesTheImages();
        CHECK.end("BoundsPrinterTest");
    }

    // load

    private static void loadOutOfRange() {
        CHECK.sentence("5 load: BAD if an argument is out of range");
        for (int length : Check.outside(0, 50000)) {
            CHECK.dueRefused("load(" + length + ", 0)", x -> { }, x -> x.load(length, 0), Check.BAD);
            CHECK.dueRefused("load(0, " + length + ")", x -> { }, x -> x.load(0, length), Check.BAD);
            CHECK.dueRefused("load(50000, " + length + ") when off", x -> x.off(), x -> x.load(50000, length), Check.BAD);
            CHECK.dueRefused("load(" + length + ", 50000) when off", x -> x.off(), x -> x.load(length, 50000), Check.BAD);
        }
        CHECK.dueRefused("load(-1, 50001)", x -> { }, x -> x.load(-1, 50001), Check.BAD);
    }

    private static void loadAtTheEnds() {
        CHECK.sentence("5 load: Returns the length that was really there before");
        TicketJournal x = new TicketJournal();
        CHECK.due("load(50000, 0)", x.load(50000, 0), 0);
        CHECK.dueTold(x, 1, 0, 1, 0, 0, 50000, 0, 1, 0, 0, 4);
        CHECK.due("load(0, 50000)", x.load(0, 50000), 0);
        CHECK.dueTold(x, 1, 0, 2, 0, 0, 0, 0, 2, 50000, 0, 8);
        CHECK.due("load(0, 0)", x.load(0, 0), 50000);
        CHECK.dueRecord(x, 0, 0, 4, 0, 50000);
        CHECK.dueRecord(x, 1, 1, 4, 0, 0);
        CHECK.sentence("5 load: This is a change");
        CHECK.dueChange("load(50000, 50000)", y -> { }, y -> y.load(50000, 50000), 0);
        CHECK.dueChange("load(0, 0)", y -> y.load(7, 8), y -> y.load(0, 0), 8);
    }

    private static void loadWhenOff() {
        CHECK.sentence("5 load: STATE if the power is off");
        CHECK.dueRefused("load(5, 6)", Given::loadedAndOff, x -> x.load(5, 6), Check.STATE);
        CHECK.dueRefused("load(5, 6) behind a cut", x -> Given.closeCut(x, 2), x -> x.load(5, 6), Check.STATE);
    }

    private static void loadCut() {
        CHECK.sentence("5 load: first it is really there; then a record is written; CUT if the power was lost");
        for (int n = 0; n <= 4; n++) {
            TicketJournal x = Given.loaded(300, 200);
            x.cut(n);
            CHECK.due("load(700, 600), cut(" + n + ")", x.load(700, 600), n == 4 ? 200 : Check.CUT);
            CHECK.due("told(8)", x.told(8), 600);
            CHECK.due("start()", x.start(), n == 4 ? Check.STATE : 1);
            CHECK.dueTold(x, 1, 0, n == 4 ? 2 : 1, 0, 0, n == 4 ? 700 : 300, 0, n == 0 ? 1 : 2, 600);
        }
        for (int n = 0; n <= 11; n++) {
            TicketJournal x = Given.loaded(300, 200);
            Given.close(x, 3);
            x.cut(n);
            CHECK.due("load(700, 600) into the next block, cut(" + n + ")", x.load(700, 600), n == 11 ? 200 : Check.CUT);
            CHECK.due("told(8)", x.told(8), 600);
            CHECK.due("start()", x.start(), n == 11 ? Check.STATE : 4);
            CHECK.due("told(5)", x.told(5), n == 11 ? 700 : 300);
            CHECK.due("told(6)", x.told(6), n < 7 ? 0 : 1);
            CHECK.dueWords(x, 1, 3, n < 5 ? ERASED : 300);
        }
    }

    // setClock

    private static void setClockOutOfRange() {
        CHECK.sentence("6 setClock: BAD if time is out of range");
        for (int time : Check.outside(0, 60000)) {
            CHECK.dueRefused("setClock(" + time + ")", x -> x.pass(9), x -> x.setClock(time), Check.BAD);
            CHECK.dueRefused("setClock(" + time + ") when off", x -> x.off(), x -> x.setClock(time), Check.BAD);
        }
    }

    private static void setClockWhenOff() {
        CHECK.sentence("6 setClock: STATE if the power is off");
        CHECK.dueRefused("setClock(4)", Given::loadedAndOff, x -> x.setClock(4), Check.STATE);
        CHECK.dueRefused("setClock(0)", Given::loadedAndOff, x -> x.setClock(0), Check.STATE);
        CHECK.dueRefused("setClock(500)", Given::loadedAndOff, x -> x.setClock(500), Check.STATE);
    }

    private static void setClockByFive() {
        CHECK.sentence("6 setClock: if the new time differs from the present one by 5 or more, a record is written");
        for (int step = -7; step <= 7; step++) {
            int time = 100 + step;
            int written = step <= -5 || step >= 5 ? 1 : 0;
            TicketJournal x = new TicketJournal();
            x.pass(100);
            CHECK.due("setClock(" + time + ") at 100", x.setClock(time), written);
            CHECK.dueTold(x, 1, time, written, 0, 0, 0, 0, written, 0, 0, 4 * written, Check.NONE, 2);
            CHECK.due("records(2)", x.records(2), written);
            if (written == 1) {
                CHECK.dueRecord(x, 0, 0, 2, time, 100, 0, 0);
            }
            CHECK.dueChange("setClock(" + time + ")", y -> y.pass(100), y -> y.setClock(time), written);
        }
    }

    private static void setClockAtTheEnds() {
        CHECK.sentence("6 setClock: the new time, 0 to 60000");
        TicketJournal x = new TicketJournal();
        CHECK.due("setClock(0)", x.setClock(0), 0);
        CHECK.due("setClock(60000)", x.setClock(60000), 1);
        CHECK.due("told(1)", x.told(1), 60000);
        CHECK.due("setClock(59996)", x.setClock(59996), 0);
        CHECK.due("setClock(60000)", x.setClock(60000), 0);
        CHECK.due("setClock(59995)", x.setClock(59995), 1);
        CHECK.due("setClock(4)", x.setClock(4), 1);
        CHECK.due("setClock(0)", x.setClock(0), 0);
        CHECK.due("setClock(5)", x.setClock(5), 1);
        CHECK.due("setClock(0)", x.setClock(0), 1);
        CHECK.due("told(1)", x.told(1), 0);
        CHECK.due("told(2)", x.told(2), 5);
    }

    private static void setClockCut() {
        CHECK.sentence("6 setClock: CUT if the power was lost (the clock is not set then)");
        for (int n = 0; n <= 4; n++) {
            TicketJournal x = new TicketJournal();
            x.pass(100);
            x.cut(n);
            CHECK.due("setClock(104), cut(" + n + ")", x.setClock(104), 0);
            CHECK.due("told(11)", x.told(11), n);
            CHECK.due("setClock(99), cut(" + n + ")", x.setClock(99), n == 4 ? 1 : Check.CUT);
            CHECK.due("told(1)", x.told(1), n == 4 ? 99 : 104);
            CHECK.due("start()", x.start(), n == 4 ? Check.STATE : 0);
            CHECK.due("told(7)", x.told(7), n == 0 ? 0 : 1);
        }
        TicketJournal x = Given.closed(4);
        x.cut(10);
        CHECK.due("setClock(5) into the next block", x.setClock(5), Check.CUT);
        CHECK.due("told(1)", x.told(1), 0);
    }

    // pass

    private static void passOutOfRange() {
        CHECK.sentence("7 pass: BAD if minutes is out of range");
        for (int minutes : Check.outside(1, 5000)) {
            CHECK.dueRefused("pass(" + minutes + ")", x -> x.pass(3), x -> x.pass(minutes), Check.BAD);
            CHECK.dueRefused("pass(" + minutes + ") when off", x -> x.off(), x -> x.pass(minutes), Check.BAD);
        }
        CHECK.dueRefused("pass(-3)", x -> x.pass(3), x -> x.pass(-3), Check.BAD);
        CHECK.sentence("7 pass: how many, 1 to 5000");
        CHECK.dueChange("pass(1)", x -> { }, x -> x.pass(1), 1);
        CHECK.dueChange("pass(5000)", x -> { }, x -> x.pass(5000), 5000);
    }

    private static void passStaysAtTheEnd() {
        CHECK.sentence("7 pass: the time stays at 60000 when it gets there");
        int[] from = {55000, 55001, 59999, 60000, 54999};
        int[] until = {60000, 60000, 60000, 60000, 59999};
        for (int i = 0; i < from.length; i++) {
            TicketJournal x = new TicketJournal();
            x.setClock(from[i]);
            CHECK.due("pass(5000) at " + from[i], x.pass(5000), until[i]);
            CHECK.due("told(1)", x.told(1), until[i]);
            CHECK.due("told(2): no record is written", x.told(2), 1);
        }
        TicketJournal x = new TicketJournal();
        x.setClock(59999);
        CHECK.due("pass(1)", x.pass(1), 60000);
        CHECK.due("pass(1) at the end", x.pass(1), 60000);
        CHECK.dueChange("pass(1) at the end", y -> y.setClock(60000), y -> y.pass(1), 60000);
    }

    private static void passWhenOff() {
        CHECK.sentence("7 pass: whether the power is on or off");
        CHECK.dueChange("pass(10)", x -> x.off(), x -> x.pass(10), 10);
        TicketJournal x = new TicketJournal();
        x.off();
        for (int i = 1; i <= 12; i++) {
            CHECK.due("pass(5000)", x.pass(5000), 5000 * i);
        }
        CHECK.due("pass(5000) at the end", x.pass(5000), 60000);
        x.start();
        x.close();
        CHECK.dueRecord(x, 0, 0, 3, 60000, 0);
    }

    // setPrice

    private static void setPriceOutOfRange() {
        CHECK.sentence("8 setPrice: BAD if there is no such sort or price is out of range");
        for (int sort : Check.outside(0, 3)) {
            CHECK.dueRefused("setPrice(" + sort + ", 5)", x -> { }, x -> x.setPrice(sort, 5), Check.BAD);
        }
        for (int price : Check.outside(1, 999)) {
            CHECK.dueRefused("setPrice(3, " + price + ")", x -> x.off(), x -> x.setPrice(3, price), Check.BAD);
        }
        CHECK.dueRefused("setPrice(4, 0)", x -> { }, x -> x.setPrice(4, 0), Check.BAD);
    }

    private static void setPriceAtTheEnds() {
        CHECK.sentence("8 setPrice: Returns the previous price");
        for (int i = 0; i < 4; i++) {
            int sort = i;
            TicketJournal x = new TicketJournal();
            CHECK.due("setPrice(" + sort + ", 1)", x.setPrice(sort, 1), Given.PRICES[sort]);
            CHECK.due("setPrice(" + sort + ", 999)", x.setPrice(sort, 999), 1);
            CHECK.due("setPrice(" + sort + ", 999)", x.setPrice(sort, 999), 999);
            for (int other = 0; other < 4; other++) {
                CHECK.due("price(" + other + ")", x.price(other), other == sort ? 999 : Given.PRICES[other]);
            }
            CHECK.dueChange("setPrice(" + sort + ", 7)", y -> { }, y -> y.setPrice(sort, 7), Given.PRICES[sort]);
            CHECK.dueChange("setPrice(" + sort + ", 7) when off", y -> y.off(), y -> y.setPrice(sort, 7), Given.PRICES[sort]);
        }
    }

    // cut

    private static void cutOutOfRange() {
        CHECK.sentence("9 cut: BAD if operations is out of range");
        for (int operations : Check.outside(-1, 100)) {
            CHECK.dueRefused("cut(" + operations + ")", x -> x.cut(7), x -> x.cut(operations), Check.BAD);
            CHECK.dueRefused("cut(" + operations + ") with none set", x -> x.off(), x -> x.cut(operations), Check.BAD);
        }
    }

    private static void cutAtTheEnds() {
        CHECK.sentence("9 cut: the number of flash operations that are left, 0 to 100, or -1 so that no cut is set");
        TicketJournal x = new TicketJournal();
        CHECK.due("cut(100)", x.cut(100), Check.NONE);
        CHECK.due("told(11)", x.told(11), 100);
        CHECK.due("cut(0)", x.cut(0), 100);
        CHECK.due("told(11)", x.told(11), 0);
        CHECK.due("cut(-1)", x.cut(-1), 0);
        CHECK.due("told(11)", x.told(11), Check.NONE);
        CHECK.due("cut(-1)", x.cut(-1), Check.NONE);
        Given.close(x, 40);
        CHECK.due("told(0): no cut comes", x.told(0), 1);
        x = new TicketJournal();
        x.cut(100);
        // 15 records and three blocks are 81 operations; three more records and a block are 19.
        Given.close(x, 15);
        CHECK.due("told(11)", x.told(11), 100 - 15 * 4 - 3 * 7);
        Given.close(x, 3);
        CHECK.due("told(11)", x.told(11), 0);
        CHECK.due("close()", x.close(), Check.CUT);
        CHECK.due("told(10)", x.told(10), 100);
    }

    private static void cutInPlaceOfOne() {
        CHECK.sentence("9 cut: Returns the number that was left before, NONE if no cut was set");
        TicketJournal x = new TicketJournal();
        x.cut(9);
        x.close();
        CHECK.due("cut(3)", x.cut(3), 5);
        CHECK.due("close()", x.close(), Check.CUT);
        CHECK.due("cut(2) when the cut has come", x.cut(2), Check.NONE);
        CHECK.sentence("9 cut: This is a change");
        CHECK.dueChange("cut(-1)", y -> { }, y -> y.cut(-1), Check.NONE);
        CHECK.dueChange("cut(0)", y -> y.cut(0), y -> y.cut(0), 0);
        CHECK.dueChange("cut(100)", y -> y.cut(1), y -> y.cut(100), 1);
    }

    private static void cutWhenOff() {
        CHECK.sentence("9 cut: Sets a cut, in place of one that is set (whether the power is on or off)");
        CHECK.dueChange("cut(5)", x -> x.off(), x -> x.cut(5), Check.NONE);
        TicketJournal x = new TicketJournal();
        x.off();
        x.cut(0);
        CHECK.due("start()", x.start(), 0);
        CHECK.due("told(11)", x.told(11), 0);
        CHECK.due("close()", x.close(), Check.CUT);
    }

    // off

    private static void offWhenOff() {
        CHECK.sentence("10 off: STATE if it is off");
        CHECK.dueRefused("off()", x -> x.off(), x -> x.off(), Check.STATE);
        CHECK.dueRefused("off() behind a cut", x -> Given.closeCut(x, 0), x -> x.off(), Check.STATE);
        CHECK.sentence("10 off: This is a change");
        CHECK.dueChange("off()", x -> x.load(90, 80), x -> x.off(), 1);
    }

    private static void offCountsWholeRecords() {
        CHECK.sentence("10 off: Returns the number of whole records in whole blocks");
        CHECK.due("off() of a new printer", new TicketJournal().off(), 0);
        CHECK.due("off() with all places full", Given.closed(20).off(), 20);
        CHECK.due("off() with a block begun again", Given.closed(21).off(), 17);
        TicketJournal x = Given.closed(20);
        Given.closeCut(x, 6);
        x.start();
        CHECK.due("off() with a torn block", x.off(), 16);
        x = Given.closed(3);
        Given.closeCut(x, 3);
        x.start();
        CHECK.due("off() with a torn record", x.off(), 3);
        x = new TicketJournal();
        for (int i = 0; i < 4; i++) {
            Given.closeCut(x, 1);
            x.start();
        }
        CHECK.due("off() with torn records alone", x.off(), 0);
    }

    private static void offLeavesTheCut() {
        CHECK.sentence("10 off: a cut that is set stays set");
        for (int operations = 0; operations <= 100; operations += 50) {
            TicketJournal x = new TicketJournal();
            x.cut(operations);
            CHECK.due("off()", x.off(), 0);
            CHECK.due("told(11)", x.told(11), operations);
            CHECK.due("told(10)", x.told(10), 0);
        }
    }

    // start

    private static void startWhenOn() {
        CHECK.sentence("11 start: STATE if the power is on");
        CHECK.dueRefused("start() of a new printer", x -> { }, x -> x.start(), Check.STATE);
        CHECK.dueRefused("start() behind a start", x -> {
            x.off();
            x.start();
        }, x -> x.start(), Check.STATE);
        CHECK.sentence("11 start: This is a change");
        CHECK.dueChange("start()", Given::loadedAndOff, x -> x.start(), 1);
        CHECK.dueChange("start() behind a cut", x -> Given.closeCut(x, 1), x -> x.start(), 0);
    }

    private static void startReturnsTheNextNumber() {
        CHECK.sentence("11 start: Returns the number of the next record");
        for (int records = 0; records <= 25; records++) {
            TicketJournal x = Given.closed(records);
            x.off();
            CHECK.due("start() behind " + records + " records", x.start(), records);
            CHECK.due("told(2)", x.told(2), records);
            Given.closeCut(x, 1);
            CHECK.due("start() behind a cut", x.start(), records);
            x.close();
            CHECK.due("told(2)", x.told(2), records + 1);
        }
    }

    private static void startDoesNoOperations() {
        CHECK.sentence("11 start: this does no flash operations");
        TicketJournal x = Given.closed(20);
        Given.closeCut(x, 3);
        x.cut(0);
        int done = x.told(10);
        CHECK.due("start()", x.start(), 20);
        CHECK.due("told(0)", x.told(0), 1);
        CHECK.due("told(10)", x.told(10), done);
        CHECK.due("told(11)", x.told(11), 0);
        CHECK.dueBlock(x, 0, 0, Check.NONE, 0, 0, 1);
    }

    private static void startReadsEachKind() {
        CHECK.sentence("a ticket adds its price to the sum and 1 to the number, and takes its length from the paper");
        for (int sort = 0; sort < 4; sort++) {
            TicketJournal x = Given.loaded(100, 100);
            x.sell(sort);
            x.setPrice(sort, 1);
            dueStarted(x, 2, Given.PRICES[sort], 1, 100 - Given.LENGTHS[sort]);
        }
        CHECK.sentence("a cancellation takes its price from the sum and 1 from the number of tickets");
        TicketJournal x = Given.loaded(200, 200);
        x.sell(0);
        x.sell(3);
        x.cancel();
        dueStarted(x, 4, 150, 1, 60);
        CHECK.sentence("a close makes both 0");
        x = Given.loaded(200, 200);
        x.sell(3);
        x.close();
        dueStarted(x, 3, 0, 0, 100);
        CHECK.sentence("paper is what its value says");
        x = Given.loaded(200, 200);
        x.sell(3);
        x.load(0, 5);
        dueStarted(x, 3, 800, 1, 0);
        x.load(50000, 5);
        dueStarted(x, 4, 800, 1, 50000);
        CHECK.sentence("2 a clock step (it changes none of them)");
        x = Given.loaded(200, 200);
        x.sell(3);
        x.setClock(60000);
        dueStarted(x, 3, 800, 1, 100);
        CHECK.due("told(1): the clock runs from a battery", x.told(1), 60000);
        CHECK.sentence("for each whole record (a torn one is not read)");
        x = Given.loaded(200, 200);
        x.cut(3);
        x.sell(3);
        x.start();
        x.sell(0);
        dueStarted(x, 2, 150, 1, 160);
    }

    private static void dueStarted(TicketJournal x, int number, int sum, int tickets, int paper) {
        x.off();
        CHECK.due("start()", x.start(), number);
        CHECK.due("told(3)", x.told(3), sum);
        CHECK.due("told(4)", x.told(4), tickets);
        CHECK.due("told(5)", x.told(5), paper);
    }

    private static void startReadsTheLatestBlockAlone() {
        CHECK.sentence("for each whole record in this block, in the order of their places");
        TicketJournal x = Given.loaded(1000, 1000);
        x.sell(0);
        x.sell(1);
        x.sell(2);
        x.sell(3);
        x.close();
        x.sell(1);
        x.sell(0);
        dueStarted(x, 8, 400, 2, 620);
        x.close();
        dueStarted(x, 9, 0, 0, 620);
        CHECK.dueWords(x, 2, 0, 2, 400, 2, 620, 8);
    }

    // undo

    private static void undoOfNothing() {
        CHECK.sentence("12 undo: STATE if there is none");
        CHECK.dueRefused("undo() of a new printer", x -> { }, x -> x.undo(), Check.STATE);
        CHECK.dueRefused("undo() behind an undo", x -> {
            x.close();
            x.undo();
        }, x -> x.undo(), Check.STATE);
        CHECK.dueRefused("undo() behind eight of nine", x -> {
            Given.close(x, 9);
            for (int i = 0; i < 8; i++) {
                x.undo();
            }
        }, x -> x.undo(), Check.STATE);
        CHECK.dueRefused("undo() behind a refused call", x -> x.sell(0), x -> x.undo(), Check.STATE);
    }

    private static void undoReturnsHowMany() {
        CHECK.sentence("12 undo: Returns how many changes can still be undone");
        for (int changes = 1; changes <= 20; changes++) {
            TicketJournal x = Given.closed(changes);
            for (int left = Math.min(changes, 8) - 1; left >= 0; left--) {
                CHECK.due("undo()", x.undo(), left);
                CHECK.due("told(12)", x.told(12), left);
                CHECK.due("told(2)", x.told(2), changes - Math.min(changes, 8) + left);
            }
        }
    }

    private static void undoIsNoChange() {
        CHECK.sentence("12 undo: undo() removes the latest state and restores it");
        CHECK.dueNoChange("close() and undo()", x -> Given.close(x, 7), x -> {
            x.close();
            x.undo();
        });
        CHECK.dueNoChange("a cut sale and undo()", x -> x.load(50, 10), x -> {
            x.cut(5);
            x.sell(0);
            x.undo();
            x.undo();
        });
        // Undone and done again: the ring of states goes on where it stands.
        TicketJournal x = Given.closed(11);
        x.undo();
        x.undo();
        x.pass(5);
        x.pass(6);
        x.pass(7);
        CHECK.due("told(12)", x.told(12), 8);
        x.undo();
        x.undo();
        x.undo();
        CHECK.dueTold(x, 1, 0, 9);
        CHECK.due("told(12)", x.told(12), 5);
    }

    private static void undoLeavesTheImages() {
        CHECK.sentence("records everything before it, except the images");
        TicketJournal x = new TicketJournal();
        x.close();
        x.keep(0);
        x.close();
        x.close();
        x.keep(1);
        x.undo();
        x.undo();
        x.undo();
        CHECK.due("told(2)", x.told(2), 0);
        CHECK.due("back(0)", x.back(0), 1);
        CHECK.due("back(1)", x.back(1), 3);
        CHECK.due("undo()", x.undo(), 1);
        CHECK.due("told(2)", x.told(2), 1);
        CHECK.due("undo()", x.undo(), 0);
        CHECK.due("told(2)", x.told(2), 0);
    }
}
