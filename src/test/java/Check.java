/** Counts the answers of a test that are not due, and ends the test with them. */
final class Check {
    static final int BAD = -1, STATE = -2, OUT = -3, CUT = -4, NONE = -9;

    private int answers = 0;
    private int wrong = 0;

    void due(String call, double got, double want) {
        answers++;
        if (got != want) {
            wrong++;
            System.out.println(call + " answered " + got + ", due is " + want);
        }
    }

    /** The words of a block from word k on. */
    void dueWords(TicketJournal x, int block, int k, int... want) {
        for (int i = 0; i < want.length; i++) {
            due("word(" + block + ", " + (k + i) + ")", x.word(block, k + i), want[i]);
        }
    }

    /** told(0), told(1) and so on. */
    void dueTold(TicketJournal x, int... want) {
        for (int i = 0; i < want.length; i++) {
            due("told(" + i + ")", x.told(i), want[i]);
        }
    }

    /** record(k, 0), record(k, 1) and so on. */
    void dueRecord(TicketJournal x, int k, int... want) {
        for (int i = 0; i < want.length; i++) {
            due("record(" + k + ", " + i + ")", x.record(k, i), want[i]);
        }
    }

    void end(String test) {
        System.out.println(test + ": " + answers + " answers, " + wrong + " not as due");
        if (wrong != 0 || answers == 0) {
            System.exit(1);
        }
    }
}
