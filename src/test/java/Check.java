import java.util.Arrays;
import java.util.function.Consumer;
import java.util.function.ToIntFunction;

/** Counts the answers of a test that are not due, and ends the test with them. */
final class Check {
    static final int BAD = -1, STATE = -2, OUT = -3, CUT = -4, NONE = -9;

    private int answers = 0;
    private int wrong = 0;
    private int sentences = 0;
    private String sentence = "";

    /** From here on the answers are due by this sentence of the document. */
    void sentence(String words) {
        sentences++;
        sentence = words + " | ";
    }

    void due(String call, double got, double want) {
        answers++;
        if (got != want) {
            wrong++;
            System.out.println(sentence + call + " answered " + got + ", due is " + want);
        }
    }

    /** The words of a block from word k on. */
    void dueWords(TicketJournal x, int block, int k, int... want) {
        for (int i = 0; i < want.length; i++) {
            due("word(" + block + ", " + (k + i) + ")", x.word(block, k + i), want[i]);
        }
    }

    /** told(0), told(1) and so on. */
    void dueTold(TicketJournal x, int... want) {
        for (int i = 0; i < want.length; i++) {
            due("told(" + i + ")", x.told(i), want[i]);
        }
    }

    /** record(k, 0), record(k, 1) and so on. */
    void dueRecord(TicketJournal x, int k, int... want) {
        for (int i = 0; i < want.length; i++) {
            due("record(" + k + ", " + i + ")", x.record(k, i), want[i]);
        }
    }

    /** block(block, 0), block(block, 1) and so on. */
    void dueBlock(TicketJournal x, int block, int... want) {
        for (int i = 0; i < want.length; i++) {
            due("block(" + block + ", " + i + ")", x.block(block, i), want[i]);
        }
    }

    /** The call answers an error code, and a twin without the call reads the same. */
    void dueRefused(String call, Consumer<TicketJournal> before, ToIntFunction<TicketJournal> refused, int code) {
        TicketJournal x = new TicketJournal();
        TicketJournal twin = new TicketJournal();
        before.accept(x);
        before.accept(twin);
        due(call, refused.applyAsInt(x), code);
        dueAlike("what " + call + " left as it was", x, twin);
    }

    /**
     * The call answers so, is recorded, and undone it leaves what a twin without
     * the call has. What is before it must leave room in the history.
     */
    void dueChange(String call, Consumer<TicketJournal> before, ToIntFunction<TicketJournal> change, int want) {
        TicketJournal x = new TicketJournal();
        TicketJournal twin = new TicketJournal();
        before.accept(x);
        before.accept(twin);
        int recorded = x.told(12);
        due(call, change.applyAsInt(x), want);
        due("told(12) behind " + call, x.told(12), recorded + 1);
        due("undo() behind " + call, x.undo(), recorded);
        dueAlike("what is as before " + call, x, twin);
    }

    /** The call changes nothing, whatever it answers: a twin without the call reads the same. */
    void dueNoChange(String call, Consumer<TicketJournal> before, Consumer<TicketJournal> harmless) {
        TicketJournal x = new TicketJournal();
        TicketJournal twin = new TicketJournal();
        before.accept(x);
        before.accept(twin);
        harmless.accept(x);
        dueAlike("what " + call + " left as it was", x, twin);
    }

    private void dueAlike(String what, TicketJournal x, TicketJournal twin) {
        due(what, Arrays.equals(everything(x), everything(twin)) ? 1 : 0, 1);
    }

    /** All that can be read, then all that can be undone, then what the images keep: some 300 calls. */
    private static int[] everything(TicketJournal x) {
        Row row = new Row();
        row.addTold(x);
        for (int block = 0; block < 5; block++) {
            for (int k = 0; k < 22; k++) {
                row.add(x.word(block, k));
            }
            for (int what = 0; what < 5; what++) {
                row.add(x.block(block, what));
            }
        }
        for (int i = 0; i < 8; i++) {
            row.add(x.undo());
            row.addTold(x);
        }
        for (int i = 0; i < 2; i++) {
            row.add(x.back(i));
            row.addTold(x);
        }
        return row.numbers;
    }

    private static final class Row {
        private final int[] numbers = new int[400];
        private int size = 0;

        void add(int number) {
            numbers[size] = number;
            size++;
        }

        void addTold(TicketJournal x) {
            for (int what = 0; what <= 12; what++) {
                add(x.told(what));
            }
            for (int sort = 0; sort < 4; sort++) {
                add(x.price(sort));
            }
        }
    }

    /** Numbers that are not in a range: beside it, far from it, and the farthest. */
    static int[] outside(int least, int most) {
        return new int[] {least - 1, most + 1, least - 65536, most + 65536, Integer.MIN_VALUE, Integer.MAX_VALUE};
    }

    void end(String test) {
        String told = sentences == 0 ? "" : sentences + " sentences, ";
        System.out.println(test + ": " + told + answers + " answers, " + wrong + " not as due");
        if (wrong != 0 || answers == 0) {
            System.exit(1);
        }
    }
}
