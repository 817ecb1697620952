import java.util.function.Consumer;

/** Promises 22 to 26, sentence by sentence where one names a boundary. */
public final class BoundsWhatIfTest {
    private static final Check CHECK = new Check();

    public static void main(String[] args) {
        noSuchSort();
        whenOff();
        aboveTheGreatestSum();
        outOfPaper();
        everythingInACopy();
        operationsOfEachPlace();
        operationsOfASpoiltTicket();
        operationsWithoutTheCut();
        afterOutOfRange();
        afterAtTheEnds();
        afterInABlock();
        afterInANewBlock();
        afterOfASpoiltTicket();
        afterOverTheFullFlash();
        afterIsSellAndStart();
        neededOfEachPlace();
        neededOfASpoiltTicket();
        neededIsTheLeast();
        keepOutOfRange();
        keepReturnsHowMany();
        keepReplaces();
        keepIsNoChange();
        keepKeepsTheCutAndTheBattery();
        backOutOfRange();
        backOfNothing();
        backReturnsHowMany();
        backIsAChange();
        backLeavesTheImage();
        CHECK.end("BoundsWhatIfTest");
    }

    // refused

    private static void noSuchSort() {
        CHECK.sentence("22 operations, 23 after, 24 needed: BAD as for sell()");
        for (int sort : Check.outside(0, 3)) {
            dueAllRefused(x -> x.load(500, 500), sort, Check.BAD);
            dueAllRefused(Given::loadedAndOff, sort, Check.BAD);
        }
    }

    private static void whenOff() {
        CHECK.sentence("22 operations, 23 after, 24 needed: STATE as for sell(), if the power is off");
        dueAllRefused(Given::loadedAndOff, 0, Check.STATE);
        dueAllRefused(x -> x.off(), 3, Check.STATE);
        dueAllRefused(x -> {
            x.load(500, 500);
            Given.closeCut(x, 0);
        }, 0, Check.STATE);
    }

    private static void aboveTheGreatestSum() {
        CHECK.sentence("22 operations, 23 after, 24 needed: STATE as for sell(), if the sum would be above 60000");
        dueAllRefused(x -> {
            Given.fullDay(x);
            x.setPrice(1, 1);
        }, 1, Check.STATE);
        dueAllRefused(x -> {
            Given.nearlyFullDay(x);
            x.setPrice(1, 2);
        }, 1, Check.STATE);
        TicketJournal x = new TicketJournal();
        Given.nearlyFullDay(x);
        x.setPrice(1, 1);
        CHECK.due("operations(1) at 59999", x.operations(1), 11);
        CHECK.due("after(1, 30, 3) at 59999", x.after(1, 30, 3), 60000);
        CHECK.due("needed(1) at 59999", x.needed(1), 11);
    }

    private static void outOfPaper() {
        CHECK.sentence("22 operations, 23 after, 24 needed: OUT as for sell()");
        for (int i = 0; i < 4; i++) {
            int sort = i;
            int length = Given.LENGTHS[i];
            dueAllRefused(x -> x.load(length - 1, 50000), sort, Check.OUT);
            TicketJournal x = Given.loaded(length, 0);
            CHECK.due("operations(" + sort + ") with just enough", x.operations(sort), 8);
            CHECK.due("after(" + sort + ", 0, 0) with just enough", x.after(sort, 0, 0), 1);
            CHECK.due("needed(" + sort + ") with just enough", x.needed(sort), 4);
        }
        dueAllRefused(x -> { }, 0, Check.OUT);
    }

    private static void dueAllRefused(Consumer<TicketJournal> before, int sort, int code) {
        CHECK.dueRefused("operations(" + sort + ")", before, x -> x.operations(sort), code);
        CHECK.dueRefused("after(" + sort + ", 0, 0)", before, x -> x.after(sort, 0, 0), code);
        CHECK.dueRefused("after(" + sort + ", 30, 4)", before, x -> x.after(sort, 30, 4), code);
        CHECK.dueRefused("needed(" + sort + ")", before, x -> x.needed(sort), code);
    }

    private static void everythingInACopy() {
        CHECK.sentence("what if: everything happens in a copy");
        Consumer<TicketJournal> fullFlash = x -> {
            x.load(900, 50);
            Given.close(x, 19);
            x.keep(1);
            x.cut(6);
        };
        CHECK.dueNoChange("operations", fullFlash, x -> x.operations(3));
        CHECK.dueNoChange("needed", fullFlash, x -> x.needed(3));
        for (int n = 0; n <= 30; n += 5) {
            int operations = n;
            CHECK.dueNoChange("after", fullFlash, x -> x.after(3, operations, 4));
        }
    }

    // operations

    private static void operationsOfEachPlace() {
        CHECK.sentence("22 operations: Tells how many flash operations the sale of a ticket would do");
        for (int closes = 0; closes <= 24; closes++) {
            TicketJournal x = Given.loaded(1000, 1000);
            Given.close(x, closes);
            CHECK.due("operations(2) at place " + x.told(7), x.operations(2), x.told(7) == 4 ? 11 : 4);
        }
    }

    private static void operationsOfASpoiltTicket() {
        CHECK.sentence("22 operations: the sale of a ticket (that is not printed)");
        int[] places = {8, 8, 8, 15, 15};
        for (int sort = 0; sort < 4; sort++) {
            for (int closes = 3; closes <= 7; closes++) {
                TicketJournal x = Given.loaded(1000, Given.LENGTHS[sort] - 1);
                Given.close(x, closes);
                int place = x.told(7);
                CHECK.due("operations(" + sort + ") at place " + place, x.operations(sort), places[place]);
                x.load(1000, Given.LENGTHS[sort]);
                place = x.told(7);
                CHECK.due("operations(" + sort + ") with paper", x.operations(sort), place == 4 ? 11 : 4);
            }
        }
        TicketJournal x = Given.loaded(1000, 0);
        CHECK.due("operations(0) at place 1", x.operations(0), 8);
    }

    private static void operationsWithoutTheCut() {
        CHECK.sentence("what if: a copy, in which no cut is set first");
        for (int n = 0; n <= 15; n += 3) {
            TicketJournal x = Given.loaded(1000, 10);
            Given.close(x, 3);
            x.cut(n);
            CHECK.due("operations(0) with cut(" + n + ")", x.operations(0), 15);
            CHECK.due("needed(0) with cut(" + n + ")", x.needed(0), 11);
            CHECK.due("after(0, 30, 2) with cut(" + n + ")", x.after(0, 30, 2), 6);
            CHECK.due("told(11)", x.told(11), n);
        }
    }

    // after

    private static void afterOutOfRange() {
        CHECK.sentence("23 after: BAD if an argument is out of range");
        for (int i : Check.outside(0, 30)) {
            CHECK.dueRefused("after(0, " + i + ", 0)", x -> x.load(50, 50), x -> x.after(0, i, 0), Check.BAD);
            CHECK.dueRefused("after(0, " + i + ", 0) when off", x -> x.off(), x -> x.after(0, i, 0), Check.BAD);
            CHECK.dueRefused("after(0, " + i + ", 0) without paper", x -> { }, x -> x.after(0, i, 0), Check.BAD);
        }
        for (int what : Check.outside(0, 4)) {
            CHECK.dueRefused("after(0, 0, " + what + ")", x -> x.load(50, 50), x -> x.after(0, 0, what), Check.BAD);
            CHECK.dueRefused("after(0, 0, " + what + ") when off", x -> x.off(), x -> x.after(0, 0, what), Check.BAD);
            CHECK.dueRefused("after(0, 0, " + what + ") without paper", x -> { }, x -> x.after(0, 0, what), Check.BAD);
        }
    }

    private static void dueAfter(TicketJournal x, int sort, int operations, int... want) {
        for (int what = 0; what < want.length; what++) {
            CHECK.due("after(" + sort + ", " + operations + ", " + what + ")",
                    x.after(sort, operations, what), want[what]);
        }
    }

    private static void afterAtTheEnds() {
        CHECK.sentence("23 after: the number of operations that are left, 0 to 30");
        TicketJournal x = Given.loaded(1000, 1000);
        dueAfter(x, 3, 0, 1, 0, 1, 0, 0);
        dueAfter(x, 3, 30, 2, 0, 2, 800, 0);
    }

    private static void afterInABlock() {
        CHECK.sentence("23 after: (if the power is not lost, that behind the sale)");
        TicketJournal x = Given.loaded(1000, 1000);
        x.sell(1);
        for (int n = 0; n <= 30; n++) {
            if (n < 4) {
                dueAfter(x, 0, n, 2, n == 0 ? 0 : 1, 2, 250, 0);
            } else {
                dueAfter(x, 0, n, 3, 0, 3, 400, 0);
            }
        }
    }

    private static void afterInANewBlock() {
        CHECK.sentence("23 after: 4 the current block (when a block is begun)");
        TicketJournal x = Given.loaded(1000, 1000);
        Given.close(x, 3);
        for (int n = 0; n <= 30; n++) {
            if (n < 11) {
                dueAfter(x, 3, n, 4, n < 8 ? 0 : 1, 4, 0, n < 7 ? 0 : 1);
            } else {
                dueAfter(x, 3, n, 5, 0, 5, 800, 1);
            }
        }
    }

    private static void afterOfASpoiltTicket() {
        CHECK.sentence("23 after: 3 the sum of the day (when the ticket is not printed)");
        TicketJournal x = Given.loaded(1000, 99);
        for (int n = 0; n <= 30; n++) {
            if (n < 4) {
                dueAfter(x, 3, n, 1, n == 0 ? 0 : 1, 1, 0, 0);
            } else if (n < 8) {
                dueAfter(x, 3, n, 2, n == 4 ? 0 : 1, 2, 800, 0);
            } else {
                dueAfter(x, 3, n, 3, 0, 3, 0, 0);
            }
        }
    }

    private static void afterOverTheFullFlash() {
        CHECK.sentence("23 after: 0 how many whole records there are then (when the oldest block is erased)");
        TicketJournal x = Given.loaded(1000, 0);
        Given.close(x, 18);
        // 19 whole records; the ticket takes the last place, and its cancellation erases block 0.
        for (int n = 0; n <= 15; n++) {
            if (n < 4) {
                dueAfter(x, 0, n, 19, n == 0 ? 0 : 1, 19, 0, 4);
            } else if (n == 4) {
                dueAfter(x, 0, n, 20, 0, 20, 150, 4);
            } else if (n < 15) {
                dueAfter(x, 0, n, 16, n < 12 ? 0 : 1, 20, 150, n < 11 ? 4 : 0);
            } else {
                dueAfter(x, 0, n, 17, 0, 21, 0, 0);
            }
        }
    }

    private static void afterIsSellAndStart() {
        CHECK.sentence("23 after: Tells what comes of the sale of a ticket with a cut, and of a start after it");
        for (int closes = 0; closes <= 21; closes += 3) {
            for (int n = 0; n <= 16; n++) {
                TicketJournal told = Given.loaded(1000, n % 2 * 500);
                TicketJournal done = Given.loaded(1000, n % 2 * 500);
                Given.close(told, closes);
                Given.close(done, closes);
                done.cut(n);
                if (done.sell(2) == Check.CUT) {
                    done.start();
                }
                dueAfter(told, 2, n, done.records(-1), done.records(-2), done.told(2), done.told(3), done.told(6));
            }
        }
    }

    // needed

    private static void neededOfEachPlace() {
        CHECK.sentence("24 needed: Finds the least number of operations that must be left (at each place)");
        int[] needed = {4, 4, 4, 4, 11};
        for (int closes = 0; closes <= 24; closes++) {
            TicketJournal x = Given.loaded(1000, 1000);
            Given.close(x, closes);
            CHECK.due("needed(1) at place " + x.told(7), x.needed(1), needed[x.told(7)]);
        }
        TicketJournal x = Given.loaded(1000, 1000);
        Given.close(x, 3);
        Given.closeCut(x, 7);
        x.start();
        CHECK.due("needed(1) at place 0", x.needed(1), 4);
        x = Given.loaded(1000, 1000);
        for (int torn = 1; torn <= 3; torn++) {
            Given.closeCut(x, torn);
            x.start();
            CHECK.due("needed(1) behind " + torn + " torn records", x.needed(1), torn == 3 ? 11 : 4);
        }
    }

    private static void neededOfASpoiltTicket() {
        CHECK.sentence("24 needed: so that the ticket of a sale is whole (its cancellation need not be)");
        for (int closes = 0; closes <= 4; closes++) {
            TicketJournal x = Given.loaded(1000, 0);
            Given.close(x, closes);
            CHECK.due("needed(3) behind " + closes + " closes", x.needed(3), closes == 3 ? 11 : 4);
        }
    }

    private static void neededIsTheLeast() {
        CHECK.sentence("24 needed: whole when the printer starts again");
        for (int closes = 0; closes <= 24; closes++) {
            TicketJournal x = Given.loaded(1000, closes % 2 * 1000);
            Given.close(x, closes);
            int needed = x.needed(0);
            x.cut(needed - 1);
            CHECK.due("sell(0) with one less", x.sell(0), Check.CUT);
            x.start();
            CHECK.due("records(0)", x.records(0), 0);
            x.undo();
            x.undo();
            x.undo();
            x.cut(needed);
            x.sell(0);
            x.off();
            x.start();
            CHECK.due("records(0)", x.records(0), 1);
        }
    }

    // keep

    private static void keepOutOfRange() {
        CHECK.sentence("25 keep: BAD if there is no such image");
        for (int i : Check.outside(0, 1)) {
            CHECK.dueRefused("keep(" + i + ")", x -> x.close(), x -> x.keep(i), Check.BAD);
            CHECK.dueRefused("keep(" + i + ") when off", x -> x.off(), x -> x.keep(i), Check.BAD);
        }
    }

    private static void keepReturnsHowMany() {
        CHECK.sentence("25 keep: Returns the number of whole records in whole blocks");
        for (int i = 0; i <= 1; i++) {
            CHECK.due("keep(" + i + ") of a new printer", new TicketJournal().keep(i), 0);
            CHECK.due("keep(" + i + ") with all places full", Given.closed(20).keep(i), 20);
            TicketJournal x = Given.closed(20);
            Given.closeCut(x, 6);
            CHECK.due("keep(" + i + ") with a torn block, when off", x.keep(i), 16);
            x.start();
            Given.closeCut(x, 8);
            CHECK.due("keep(" + i + ") with a torn record", x.keep(i), 16);
        }
    }

    private static void keepReplaces() {
        CHECK.sentence("25 keep: replacing what it kept before");
        TicketJournal x = new TicketJournal();
        x.keep(0);
        x.keep(1);
        x.close();
        x.keep(0);
        x.close();
        CHECK.due("back(0)", x.back(0), 1);
        CHECK.due("back(1): the other image stays", x.back(1), 0);
        x.keep(0);
        CHECK.due("back(0)", x.back(0), 0);
    }

    private static void keepIsNoChange() {
        CHECK.sentence("25 keep: (This is no change.)");
        TicketJournal x = Given.closed(3);
        x.keep(0);
        x.keep(1);
        CHECK.due("told(12)", x.told(12), 3);
        CHECK.due("undo()", x.undo(), 2);
        CHECK.due("told(2)", x.told(2), 2);
        CHECK.due("back(1)", x.back(1), 3);
        CHECK.due("told(12): what can be undone is not kept", x.told(12), 3);
    }

    private static void keepKeepsTheCutAndTheBattery() {
        CHECK.sentence("25 keep: Keeps everything, except the images and what can be undone");
        TicketJournal x = Given.loaded(1000, 140);
        x.setPrice(2, 999);
        x.pass(44);
        x.cut(100);
        Given.close(x, 2);
        x.sell(2);
        x.sell(2);
        x.keep(1);
        int[] words = new int[110];
        for (int at = 0; at < 110; at++) {
            words[at] = x.word(at / 22, at % 22);
        }
        x.setPrice(2, 1);
        x.setClock(60000);
        x.cut(0);
        x.close();
        x.start();
        x.load(1, 1);
        Given.close(x, 20);
        // 4 records in block 0 (one of them paper), then a ticket and its cancellation in block 1.
        CHECK.due("back(1)", x.back(1), 6);
        CHECK.dueTold(x, 1, 44, 6, 999, 1, 840, 1, 2, 0, 1, 31, 100 - 27, 8);
        CHECK.due("price(2)", x.price(2), 999);
        CHECK.dueBlock(x, 1, 1, 1, 2, 0, 1);
        CHECK.dueBlock(x, 2, 0, Check.NONE, 0, 0, 0);
        for (int at = 0; at < 110; at++) {
            CHECK.dueWords(x, at / 22, at % 22, words[at]);
        }
    }

    // back

    private static void backOutOfRange() {
        CHECK.sentence("26 back: BAD if there is no such image");
        for (int i : Check.outside(0, 1)) {
            CHECK.dueRefused("back(" + i + ") with nothing kept", x -> x.close(), x -> x.back(i), Check.BAD);
            CHECK.dueRefused("back(" + i + ")", x -> {
                x.keep(0);
                x.keep(1);
                x.close();
            }, x -> x.back(i), Check.BAD);
        }
    }

    private static void backOfNothing() {
        CHECK.sentence("26 back: STATE if nothing was kept in it");
        for (int i = 0; i <= 1; i++) {
            int image = i;
            CHECK.dueRefused("back(" + i + ")", x -> x.close(), x -> x.back(image), Check.STATE);
            CHECK.dueRefused("back(" + i + ") with the other kept", x -> {
                x.keep(1 - image);
                x.close();
            }, x -> x.back(image), Check.STATE);
            CHECK.dueRefused("back(" + i + ") when off", x -> x.off(), x -> x.back(image), Check.STATE);
        }
    }

    private static void backReturnsHowMany() {
        CHECK.sentence("26 back: Returns the number of whole records in whole blocks then");
        TicketJournal x = new TicketJournal();
        x.keep(0);
        Given.close(x, 20);
        x.keep(1);
        CHECK.due("back(0)", x.back(0), 0);
        CHECK.due("back(1)", x.back(1), 20);
        Given.closeCut(x, 1);
        CHECK.due("records(-1)", x.records(-1), 16);
        CHECK.due("back(1)", x.back(1), 20);
        CHECK.due("told(0)", x.told(0), 1);
    }

    private static void backIsAChange() {
        CHECK.sentence("26 back: This is a change: it is recorded behind those that are recorded already");
        for (int i = 0; i <= 1; i++) {
            int image = i;
            CHECK.dueChange("back(" + i + ")", x -> {
                x.close();
                x.keep(image);
                x.close();
            }, x -> x.back(image), 1);
            CHECK.dueChange("back(" + i + ") when off", x -> {
                x.keep(image);
                x.off();
            }, x -> x.back(image), 0);
        }
        TicketJournal x = Given.closed(8);
        x.keep(0);
        x.close();
        x.back(0);
        CHECK.due("told(12)", x.told(12), 8);
        CHECK.due("undo()", x.undo(), 7);
        CHECK.due("told(2)", x.told(2), 9);
        CHECK.due("undo()", x.undo(), 6);
        CHECK.due("told(2)", x.told(2), 8);
    }

    private static void backLeavesTheImage() {
        CHECK.sentence("26 back: Makes what an image keeps the present state; the image stays");
        TicketJournal x = new TicketJournal();
        x.load(90, 80);
        x.off();
        x.keep(0);
        x.start();
        x.close();
        for (int i = 0; i < 3; i++) {
            CHECK.due("back(0)", x.back(0), 1);
            CHECK.dueTold(x, 0, 0, -9, -9, -9, -9, -9, -9, 80, 0, 4, Check.NONE);
            CHECK.due("start()", x.start(), 1);
            x.sell(0);
            x.close();
            x.setPrice(0, 3);
        }
        CHECK.due("told(12)", x.told(12), 8);
    }
}
