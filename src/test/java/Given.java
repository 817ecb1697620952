/** What a printer has been through before a test begins. */
final class Given {
    static final int[] LENGTHS = {40, 60, 80, 100};
    static final int[] PRICES = {150, 250, 400, 800};

    private Given() {
    }

    /** A new printer with so many closes in its journal. */
    static TicketJournal closed(int times) {
        TicketJournal x = new TicketJournal();
        close(x, times);
        return x;
    }

    static TicketJournal loaded(int told, int there) {
        TicketJournal x = new TicketJournal();
        x.load(told, there);
        return x;
    }

    static void close(TicketJournal x, int times) {
        for (int i = 0; i < times; i++) {
            x.close();
        }
    }

    /** Closes, with the power gone after so many operations. */
    static void closeCut(TicketJournal x, int operations) {
        x.cut(operations);
        x.close();
    }

    /** 75 tickets of 800: the sum of the day is 60000. */
    static void fullDay(TicketJournal x) {
        x.load(50000, 50000);
        for (int i = 0; i < 75; i++) {
            x.sell(3);
        }
    }

    /** 75 tickets too, but the sum of the day is 59999. */
    static void nearlyFullDay(TicketJournal x) {
        x.load(50000, 50000);
        for (int i = 0; i < 74; i++) {
            x.sell(3);
        }
        x.setPrice(0, 799);
        x.sell(0);
    }

    static void loadedAndOff(TicketJournal x) {
        x.load(1000, 1000);
        x.off();
    }
}
