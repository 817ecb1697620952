/** Promises 22 to 26: operations, after, needed, keep, back. */
public final class WhatIfTest {
    private static final Check CHECK = new Check();

    public static void main(String[] args) {
        operations();
        refused();
        after();
        afterWithinABlock();
        needed();
        neededAgreesWithAfter();
        keepAndBack();
        backRestoresEverything();
        imagesOutliveUndo();
        CHECK.end("WhatIfTest");
    }

    private static void operations() {
        TicketJournal x = new TicketJournal();
        x.load(1000, 1000);
        CHECK.due("operations(0)", x.operations(0), 4);
        x.cut(2);
        CHECK.due("operations(0): no cut in the copy", x.operations(0), 4);
        CHECK.due("told(11)", x.told(11), 2);
        x.cut(-1);
        x.sell(0);
        x.sell(0);
        x.load(1000, 99);
        CHECK.due("operations(2) into the next block", x.operations(2), 11);
        CHECK.due("operations(3) with its cancellation", x.operations(3), 15);
        x.sell(0);
        CHECK.due("operations(3): the cancellation behind it", x.operations(3), 8);
        x.sell(0);
        x.close();
        CHECK.due("operations(3): the cancellation in the next block", x.operations(3), 15);
        CHECK.due("told(10)", x.told(10), 16 + 11 + 4 + 4);
        CHECK.due("told(8)", x.told(8), 19);
    }

    private static void refused() {
        TicketJournal x = new TicketJournal();
        for (int sort = -1; sort <= 4; sort += 5) {
            CHECK.due("operations(" + sort + ")", x.operations(sort), Check.BAD);
            CHECK.due("after(" + sort + ", 0, 0)", x.after(sort, 0, 0), Check.BAD);
            CHECK.due("needed(" + sort + ")", x.needed(sort), Check.BAD);
        }
        CHECK.due("operations(0)", x.operations(0), Check.OUT);
        CHECK.due("after(0, 0, 0)", x.after(0, 0, 0), Check.OUT);
        CHECK.due("needed(0)", x.needed(0), Check.OUT);
        x.off();
        CHECK.due("operations(0)", x.operations(0), Check.STATE);
        CHECK.due("after(0, 0, 0)", x.after(0, 0, 0), Check.STATE);
        CHECK.due("needed(0)", x.needed(0), Check.STATE);
        CHECK.due("operations(4)", x.operations(4), Check.BAD);
        CHECK.due("needed(4)", x.needed(4), Check.BAD);
        CHECK.due("after(0, -1, 0)", x.after(0, -1, 0), Check.BAD);
        CHECK.due("after(0, 31, 0)", x.after(0, 31, 0), Check.BAD);
        CHECK.due("after(0, 0, -1)", x.after(0, 0, -1), Check.BAD);
        CHECK.due("after(0, 0, 5)", x.after(0, 0, 5), Check.BAD);
        x.start();
        CHECK.due("after(0, 31, 0) without paper", x.after(0, 31, 0), Check.BAD);
        CHECK.due("after(0, 0, 5) without paper", x.after(0, 0, 5), Check.BAD);
        x.load(50000, 50000);
        for (int i = 0; i < 75; i++) {
            x.sell(3);
        }
        CHECK.due("operations(0)", x.operations(0), Check.STATE);
        CHECK.due("after(0, 0, 0)", x.after(0, 0, 0), Check.STATE);
        CHECK.due("needed(0)", x.needed(0), Check.STATE);
    }

    private static void dueAfter(TicketJournal x, int sort, int operations, int... want) {
        for (int what = 0; what < want.length; what++) {
            CHECK.due("after(" + sort + ", " + operations + ", " + what + ")",
                    x.after(sort, operations, what), want[what]);
        }
    }

    private static void afterWithinABlock() {
        TicketJournal x = new TicketJournal();
        x.load(1000, 1000);
        x.sell(1);
        dueAfter(x, 0, 0, 2, 0, 2, 250, 0);
        dueAfter(x, 0, 1, 2, 1, 2, 250, 0);
        dueAfter(x, 0, 3, 2, 1, 2, 250, 0);
        dueAfter(x, 0, 4, 3, 0, 3, 400, 0);
        dueAfter(x, 0, 30, 3, 0, 3, 400, 0);
        x.cut(0);
        dueAfter(x, 0, 30, 3, 0, 3, 400, 0);
        CHECK.due("told(11)", x.told(11), 0);
    }

    private static void after() {
        TicketJournal x = new TicketJournal();
        x.load(1000, 100);
        for (int i = 0; i < 18; i++) {
            x.close();
        }
        // In block 4 the ticket gets place 3; the cancellation begins block 0.
        dueAfter(x, 1, 3, 19, 1, 19, 0, 4);
        dueAfter(x, 1, 4, 20, 0, 20, 250, 4);
        x.sell(1);
        x.undo();
        x.sell(0);
        x.undo();
        x.load(1000, 10);
        dueAfter(x, 1, 0, 20, 0, 20, 0, 4);
        dueAfter(x, 1, 1, 16, 0, 20, 0, 4);
        dueAfter(x, 1, 6, 16, 0, 20, 0, 4);
        dueAfter(x, 1, 7, 16, 0, 20, 0, 0);
        dueAfter(x, 1, 8, 16, 1, 20, 0, 0);
        dueAfter(x, 1, 11, 17, 0, 21, 250, 0);
        dueAfter(x, 1, 12, 17, 1, 21, 250, 0);
        dueAfter(x, 1, 15, 18, 0, 22, 0, 0);
        dueAfter(x, 1, 16, 18, 0, 22, 0, 0);
        CHECK.due("told(6)", x.told(6), 4);
        CHECK.due("told(8)", x.told(8), 10);
    }

    private static void needed() {
        TicketJournal x = new TicketJournal();
        x.load(1000, 0);
        CHECK.due("needed(0)", x.needed(0), 4);
        x.close();
        x.close();
        CHECK.due("needed(3) at the last place", x.needed(3), 4);
        x.close();
        CHECK.due("needed(3) with no place", x.needed(3), 11);
        x.cut(7);
        x.close();
        x.start();
        CHECK.due("needed(3) behind a header", x.needed(3), 4);
    }

    private static void neededAgreesWithAfter() {
        TicketJournal x = new TicketJournal();
        x.load(40000, 0);
        for (int i = 0; i < 22; i++) {
            int number = x.told(2);
            int least = 0;
            while (least < 30 && x.after(2, least, 2) == number) {
                least++;
            }
            CHECK.due("needed(2)", x.needed(2), least);
            x.close();
        }
    }

    private static void keepAndBack() {
        TicketJournal x = new TicketJournal();
        CHECK.due("keep(-1)", x.keep(-1), Check.BAD);
        CHECK.due("keep(2)", x.keep(2), Check.BAD);
        CHECK.due("back(-1)", x.back(-1), Check.BAD);
        CHECK.due("back(2)", x.back(2), Check.BAD);
        CHECK.due("back(MAX)", x.back(Integer.MAX_VALUE), Check.BAD);
        CHECK.due("back(1)", x.back(1), Check.STATE);
        CHECK.due("keep(0)", x.keep(0), 0);
        CHECK.due("back(1)", x.back(1), Check.STATE);
        CHECK.due("told(12)", x.told(12), 0);
        x.close();
        x.close();
        CHECK.due("keep(1)", x.keep(1), 2);
        x.close();
        CHECK.due("back(0)", x.back(0), 0);
        CHECK.due("told(12)", x.told(12), 4);
        CHECK.due("back(1)", x.back(1), 2);
        CHECK.due("back(1) again", x.back(1), 2);
        CHECK.due("told(12)", x.told(12), 6);
        x.close();
        CHECK.due("keep(1) replaces", x.keep(1), 3);
        CHECK.due("back(0)", x.back(0), 0);
        CHECK.due("back(1)", x.back(1), 3);
        CHECK.due("told(12)", x.told(12), 8);
    }

    private static void backRestoresEverything() {
        TicketJournal x = new TicketJournal();
        x.load(1000, 900);
        x.setPrice(1, 9);
        x.sell(1);
        x.setClock(70);
        x.sell(1);
        x.cut(40);
        x.sell(1);
        x.keep(0);
        x.off();
        x.keep(1);
        x.start();
        x.cut(-1);
        x.setPrice(1, 99);
        x.setClock(7);
        x.load(5, 5);
        x.close();
        CHECK.due("back(0)", x.back(0), 5);
        CHECK.dueTold(x, 1, 70, 5, 27, 3, 820, 1, 1, 720, 3, 27, 29, 8);
        CHECK.due("price(1)", x.price(1), 9);
        CHECK.dueWords(x, 1, 10, 65535);
        CHECK.due("back(1)", x.back(1), 5);
        CHECK.dueTold(x, 0, 70, -9, -9, -9, -9, -9, -9, 720, 3, 27, 29, 8);
        CHECK.due("undo() of back(1)", x.undo(), 7);
        CHECK.due("told(0)", x.told(0), 1);
        CHECK.due("undo() of back(0)", x.undo(), 6);
        CHECK.due("price(1)", x.price(1), 99);
        CHECK.due("told(5)", x.told(5), 5);
        CHECK.due("told(1)", x.told(1), 7);
    }

    private static void imagesOutliveUndo() {
        TicketJournal x = new TicketJournal();
        x.close();
        x.keep(0);
        CHECK.due("undo()", x.undo(), 0);
        CHECK.due("told(2)", x.told(2), 0);
        CHECK.due("back(0)", x.back(0), 1);
        CHECK.due("told(2)", x.told(2), 1);
        x.close();
        x.close();
        CHECK.due("back(0): the image stays as it was", x.back(0), 1);
        CHECK.dueWords(x, 0, 10, 65535);
    }
}
