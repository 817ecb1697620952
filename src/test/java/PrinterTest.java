/** Promises 5 to 12: load, setClock, pass, setPrice, cut, off, start, undo. */
public final class PrinterTest {
    private static final Check CHECK = new Check();

    public static void main(String[] args) {
        load();
        loadCut();
        setClock();
        setClockCut();
        pass();
        setPrice();
        cut();
        off();
        start();
        startBehindATornBlock();
        startReadsEachKind();
        undo();
        undoRestoresEverything();
        CHECK.end("PrinterTest");
    }

    private static void load() {
        TicketJournal x = new TicketJournal();
        CHECK.due("load(-1, 0)", x.load(-1, 0), Check.BAD);
        CHECK.due("load(0, -1)", x.load(0, -1), Check.BAD);
        CHECK.due("load(50001, 0)", x.load(50001, 0), Check.BAD);
        CHECK.due("load(0, 50001)", x.load(0, 50001), Check.BAD);
        CHECK.due("told(12)", x.told(12), 0);
        x.pass(4);
        CHECK.due("load(50000, 300)", x.load(50000, 300), 0);
        CHECK.dueTold(x, 1, 4, 1, 0, 0, 50000, 0, 1, 300, 0, 4);
        CHECK.dueRecord(x, 0, 0, 4, 4, 50000, 0, 0);
        CHECK.due("load(0, 50000)", x.load(0, 50000), 300);
        CHECK.due("load(0, 0)", x.load(0, 0), 50000);
        x.off();
        CHECK.due("load(0, 0) when off", x.load(0, 0), Check.STATE);
        CHECK.due("load(-1, 0) when off", x.load(-1, 0), Check.BAD);
    }

    private static void loadCut() {
        TicketJournal x = new TicketJournal();
        x.load(500, 400);
        x.cut(3);
        CHECK.due("load(700, 600)", x.load(700, 600), Check.CUT);
        CHECK.due("told(8): really there all the same", x.told(8), 600);
        x.start();
        CHECK.due("told(5)", x.told(5), 500);
    }

    private static void setClock() {
        TicketJournal x = new TicketJournal();
        CHECK.due("setClock(-1)", x.setClock(-1), Check.BAD);
        CHECK.due("setClock(60001)", x.setClock(60001), Check.BAD);
        CHECK.due("setClock(4)", x.setClock(4), 0);
        CHECK.dueTold(x, 1, 4, 0, 0, 0, 0, 0, 0, 0, 0, 0, Check.NONE, 1);
        CHECK.due("setClock(9)", x.setClock(9), 1);
        CHECK.dueTold(x, 1, 9, 1, 0, 0, 0, 0, 1, 0, 0, 4, Check.NONE, 2);
        CHECK.dueRecord(x, 0, 0, 2, 9, 4, 0, 0);
        CHECK.due("setClock(9) again", x.setClock(9), 0);
        CHECK.due("setClock(5)", x.setClock(5), 0);
        CHECK.due("setClock(0)", x.setClock(0), 1);
        CHECK.dueRecord(x, 1, 1, 2, 0, 5, 0, 1);
        CHECK.due("setClock(60000)", x.setClock(60000), 1);
        CHECK.due("told(1)", x.told(1), 60000);
        x.off();
        CHECK.due("setClock(0) when off", x.setClock(0), Check.STATE);
        CHECK.due("setClock(60001) when off", x.setClock(60001), Check.BAD);
        CHECK.due("told(1)", x.told(1), 60000);
    }

    private static void setClockCut() {
        TicketJournal x = new TicketJournal();
        x.pass(100);
        x.cut(0);
        CHECK.due("setClock(104) needs no operation", x.setClock(104), 0);
        CHECK.due("setClock(200)", x.setClock(200), Check.CUT);
        CHECK.due("told(1)", x.told(1), 104);
        CHECK.due("told(0)", x.told(0), 0);
    }

    private static void pass() {
        TicketJournal x = new TicketJournal();
        CHECK.due("pass(0)", x.pass(0), Check.BAD);
        CHECK.due("pass(-1)", x.pass(-1), Check.BAD);
        CHECK.due("pass(5001)", x.pass(5001), Check.BAD);
        CHECK.due("pass(MAX)", x.pass(Integer.MAX_VALUE), Check.BAD);
        CHECK.due("pass(1)", x.pass(1), 1);
        x.off();
        CHECK.due("pass(5000) when off", x.pass(5000), 5001);
        for (int i = 2; i <= 11; i++) {
            CHECK.due("pass(5000)", x.pass(5000), 5000 * i + 1);
        }
        CHECK.due("pass(4998)", x.pass(4998), 59999);
        CHECK.due("pass(5000)", x.pass(5000), 60000);
        CHECK.due("pass(1)", x.pass(1), 60000);
        CHECK.due("told(12): a change even so", x.told(12), 8);
        CHECK.due("undo()", x.undo(), 7);
        CHECK.due("undo()", x.undo(), 6);
        CHECK.due("told(1)", x.told(1), 59999);
    }

    private static void setPrice() {
        TicketJournal x = new TicketJournal();
        CHECK.due("setPrice(-1, 5)", x.setPrice(-1, 5), Check.BAD);
        CHECK.due("setPrice(4, 5)", x.setPrice(4, 5), Check.BAD);
        CHECK.due("setPrice(0, 0)", x.setPrice(0, 0), Check.BAD);
        CHECK.due("setPrice(0, 1000)", x.setPrice(0, 1000), Check.BAD);
        CHECK.due("told(12)", x.told(12), 0);
        CHECK.due("setPrice(0, 999)", x.setPrice(0, 999), 150);
        CHECK.due("setPrice(0, 1)", x.setPrice(0, 1), 999);
        x.off();
        CHECK.due("setPrice(3, 2) when off", x.setPrice(3, 2), 800);
        CHECK.due("price(0)", x.price(0), 1);
        CHECK.due("price(1)", x.price(1), 250);
        CHECK.due("price(3)", x.price(3), 2);
        x.start();
        x.load(100, 100);
        x.sell(0);
        CHECK.dueRecord(x, 1, 1, 0, 0, 1);
        CHECK.due("undo()", x.undo(), 6);
        CHECK.due("undo()", x.undo(), 5);
        CHECK.due("undo()", x.undo(), 4);
        CHECK.due("undo()", x.undo(), 3);
        CHECK.due("price(3)", x.price(3), 800);
    }

    private static void cut() {
        TicketJournal x = new TicketJournal();
        CHECK.due("cut(-2)", x.cut(-2), Check.BAD);
        CHECK.due("cut(101)", x.cut(101), Check.BAD);
        CHECK.due("told(12)", x.told(12), 0);
        CHECK.due("cut(-1)", x.cut(-1), Check.NONE);
        CHECK.due("cut(100)", x.cut(100), Check.NONE);
        x.close();
        CHECK.due("told(11)", x.told(11), 96);
        CHECK.due("cut(0)", x.cut(0), 96);
        CHECK.due("told(11)", x.told(11), 0);
        CHECK.due("told(0): nothing is done yet", x.told(0), 1);
        CHECK.due("close()", x.close(), Check.CUT);
        CHECK.dueTold(x, 0, 0, -9, -9, -9, -9, -9, -9, 0, 0, 4, Check.NONE, 5);
        CHECK.due("cut(9) when off", x.cut(9), Check.NONE);
        CHECK.due("start()", x.start(), 1);
        CHECK.due("told(11)", x.told(11), 9);
        CHECK.due("cut(-1)", x.cut(-1), 9);
        CHECK.due("told(11)", x.told(11), Check.NONE);
        x.cut(1);
        CHECK.due("close()", x.close(), Check.CUT);
        CHECK.dueWords(x, 0, 10, 30001, 65535, 65535, 65535);
        x.start();
        CHECK.due("told(7): goes on behind what is torn", x.told(7), 2);
    }

    private static void off() {
        TicketJournal x = new TicketJournal();
        CHECK.due("off()", x.off(), 0);
        CHECK.due("off() again", x.off(), Check.STATE);
        CHECK.due("told(12)", x.told(12), 1);
        x.start();
        for (int i = 0; i < 7; i++) {
            x.close();
        }
        x.cut(5);
        x.pass(10);
        CHECK.due("off()", x.off(), 7);
        CHECK.dueTold(x, 0, 10, -9, -9, -9, -9, -9, -9, 0, 0, 35, 5, 8);
        x.start();
        x.cut(2);
        x.close();
        CHECK.due("records(-1)", x.records(-1), 7);
    }

    private static void start() {
        TicketJournal x = new TicketJournal();
        CHECK.due("start() when on", x.start(), Check.STATE);
        CHECK.due("told(12)", x.told(12), 0);
        x.load(900, 800);
        x.sell(1);
        x.cut(0);
        x.off();
        CHECK.due("start()", x.start(), 2);
        CHECK.dueTold(x, 1, 0, 2, 250, 1, 840, 0, 2, 740, 1, 8, 0, 5);
        CHECK.due("start() again", x.start(), Check.STATE);
        for (int i = 1; i <= 3; i++) {
            x.cut(i);
            CHECK.due("sell(0)", x.sell(0), Check.CUT);
            CHECK.due("start()", x.start(), 2);
        }
        // The third sale has no place, and is cut in the header of block 1.
        CHECK.dueTold(x, 1, 0, 2, 250, 1, 840, 0, 4);
        CHECK.due("block(0, 3)", x.block(0, 3), 2);
        CHECK.due("block(1, 0)", x.block(1, 0), 0);
    }

    private static void startBehindATornBlock() {
        TicketJournal x = new TicketJournal();
        for (int i = 0; i < 20; i++) {
            x.close();
        }
        for (int i = 1; i <= 6; i++) {
            x.cut(i);
            CHECK.due("close()", x.close(), Check.CUT);
            CHECK.due("start()", x.start(), 20);
            CHECK.due("told(6)", x.told(6), 4);
            CHECK.due("told(7)", x.told(7), 4);
            CHECK.due("block(0, 0)", x.block(0, 0), 0);
            CHECK.due("block(0, 4)", x.block(0, 4), i);
        }
        x.cut(7);
        CHECK.due("close()", x.close(), Check.CUT);
        CHECK.due("start()", x.start(), 20);
        CHECK.due("told(6)", x.told(6), 0);
        CHECK.due("told(7)", x.told(7), 0);
        CHECK.due("block(0, 1)", x.block(0, 1), 5);
    }

    private static void startReadsEachKind() {
        TicketJournal x = new TicketJournal();
        x.load(1000, 1000);
        x.sell(0);
        x.setClock(50);
        x.sell(3);
        x.cancel();
        x.close();
        x.sell(1);
        x.load(300, 1000);
        x.off();
        CHECK.due("start()", x.start(), 8);
        CHECK.dueTold(x, 1, 50, 8, 250, 1, 300, 1, 4);
        x.undo();
        x.undo();
        x.undo();
        x.off();
        CHECK.due("start()", x.start(), 7);
        CHECK.dueTold(x, 1, 50, 7, 250, 1, 800, 1, 3);
        x.undo();
        x.undo();
        x.undo();
        x.off();
        CHECK.due("start()", x.start(), 6);
        CHECK.dueTold(x, 1, 50, 6, 0, 0, 860, 1, 2);
    }

    private static void undo() {
        TicketJournal x = new TicketJournal();
        CHECK.due("undo()", x.undo(), Check.STATE);
        for (int i = 1; i <= 9; i++) {
            x.pass(1);
            CHECK.due("told(12)", x.told(12), Math.min(i, 8));
        }
        for (int i = 8; i >= 1; i--) {
            CHECK.due("undo()", x.undo(), i - 1);
            CHECK.due("told(1)", x.told(1), i);
        }
        CHECK.due("undo() of the one that was dropped", x.undo(), Check.STATE);
        x.pass(100);
        CHECK.due("undo()", x.undo(), 0);
        CHECK.due("told(1)", x.told(1), 1);
    }

    private static void undoRestoresEverything() {
        TicketJournal x = new TicketJournal();
        x.load(1000, 70);
        x.sell(0);
        x.close();
        x.close();
        x.cut(14);
        x.sell(0);
        CHECK.dueTold(x, 0, 0, -9, -9, -9, -9, -9, -9, 0, 1, 30, Check.NONE, 6);
        CHECK.due("block(1, 4)", x.block(1, 4), 1);
        CHECK.due("undo()", x.undo(), 5);
        CHECK.dueTold(x, 1, 0, 4, 0, 0, 960, 0, 4, 30, 1, 16, 14, 5);
        CHECK.dueWords(x, 1, 0, 65535, 65535, 65535);
        CHECK.due("block(1, 4)", x.block(1, 4), 0);
        CHECK.due("undo()", x.undo(), 4);
        CHECK.due("told(11)", x.told(11), Check.NONE);
        x.undo();
        x.undo();
        CHECK.dueWords(x, 0, 14, 65535, 65535, 65535, 65535);
        CHECK.dueTold(x, 1, 0, 2, 150, 1, 960, 0, 2, 30, 1, 8, Check.NONE, 2);
        CHECK.due("undo() of sell(0)", x.undo(), 1);
        CHECK.dueTold(x, 1, 0, 1, 0, 0, 1000, 0, 1, 70, 0, 4, Check.NONE, 1);
        x.sell(0);
        x.off();
        CHECK.due("undo() of off()", x.undo(), 2);
        CHECK.due("told(3)", x.told(3), 150);
    }
}
