import java.util.Random;

/** Long runs of calls of all kinds: each answer of the class is that of the model. */
public final class ModelTest {
    private static final int RUNS = 1500, CALLS = 300;
    /** So many closes lead to the last numbers of records, and to the last blocks, before 0 comes again. */
    private static final int[] LONG = {9990, 39985};
    private static final int LONG_RUNS = 10;
    private static final Check CHECK = new Check();

    private final Random random;
    private final TicketJournal x = new TicketJournal();
    private final Model model = new Model();
    private final int run;
    /** How often, of 100 calls, one is that sells or cuts: so runs differ in kind. */
    private final int sales, cuts;

    private ModelTest(int run) {
        this.run = run;
        random = new Random(run);
        sales = random.nextInt(70);
        cuts = random.nextInt(100 - sales) / (1 + run % 3);
    }

    public static void main(String[] args) {
        for (int run = 0; run < RUNS; run++) {
            ModelTest test = new ModelTest(run);
            for (int i = 0; i < CALLS; i++) {
                test.call();
            }
            test.readAll();
        }
        // The document promises nothing behind 512 calls, but names the wraps that come there.
        for (int closes : LONG) {
            for (int run = 0; run < LONG_RUNS; run++) {
                longRun(closes, run);
            }
        }
        CHECK.end("ModelTest");
    }

    private static void longRun(int closes, int run) {
        ModelTest test = new ModelTest(run);
        for (int i = 0; i < closes; i++) {
            test.due("close()", test.x.close(), test.model.close());
        }
        for (int i = 0; i < CALLS; i++) {
            test.call();
        }
        test.readAll();
    }

    private void due(String call, double got, double want) {
        CHECK.due("run " + run + ": " + call, got, want);
    }

    private int among(int least, int most) {
        return least + random.nextInt(most - least + 1);
    }

    /** Mostly from the range, seldom one beside it or far from it. */
    private int argument(int least, int most) {
        switch (random.nextInt(40)) {
            case 0: return least - 1;
            case 1: return most + 1;
            case 2: return least;
            case 3: return most;
            case 4: return random.nextInt();
            default: return among(least, most);
        }
    }

    private void call() {
        int dice = random.nextInt(100);
        if (dice < sales) {
            int sort = argument(0, 3);
            due("sell(" + sort + ")", x.sell(sort), model.sell(sort));
        } else if (dice < sales + cuts) {
            cutAndStart();
        } else if (random.nextBoolean()) {
            change();
        } else {
            read();
        }
    }

    private void cutAndStart() {
        if (random.nextBoolean()) {
            due("start()", x.start(), model.start());
        } else {
            int operations = random.nextInt(4) == 0 ? argument(-1, 100) : among(0, 16);
            due("cut(" + operations + ")", x.cut(operations), model.cut(operations));
        }
    }

    private void change() {
        int a = argument(0, 3);
        switch (random.nextInt(14)) {
            case 0: case 1:
                due("cancel()", x.cancel(), model.cancel());
                break;
            case 2:
                due("close()", x.close(), model.close());
                break;
            case 3: case 4: case 5:
                int told = random.nextInt(3) == 0 ? argument(0, 300) : argument(0, 50000);
                int there = random.nextBoolean() ? argument(0, 300) : told;
                due("load(" + told + ", " + there + ")", x.load(told, there), model.load(told, there));
                break;
            case 6:
                int time = random.nextBoolean() ? x.told(1) + among(-7, 7) : argument(0, 60000);
                due("setClock(" + time + ")", x.setClock(time), model.setClock(time));
                break;
            case 7: case 8:
                int minutes = random.nextBoolean() ? among(1, 100) : argument(1, 5000);
                due("pass(" + minutes + ")", x.pass(minutes), model.pass(minutes));
                break;
            case 9:
                int price = random.nextBoolean() ? argument(900, 999) : argument(1, 999);
                due("setPrice(" + a + ", " + price + ")", x.setPrice(a, price), model.setPrice(a, price));
                break;
            case 10:
                due("off()", x.off(), model.off());
                break;
            case 11:
                due("undo()", x.undo(), model.undo());
                break;
            case 12:
                int i = argument(0, 1);
                due("keep(" + i + ")", x.keep(i), model.keep(i));
                break;
            default:
                int j = argument(0, 1);
                due("back(" + j + ")", x.back(j), model.back(j));
                break;
        }
    }

    private void read() {
        int a = argument(0, 4);
        int b = argument(0, 12);
        int sort = argument(0, 3);
        switch (random.nextInt(12)) {
            case 0: case 1:
                due("told(" + b + ")", x.told(b), model.told(b));
                break;
            case 2:
                due("word(" + a + ", " + b + ")", x.word(a, b), model.word(a, b));
                break;
            case 3:
                due("block(" + a + ", " + sort + ")", x.block(a, sort), model.block(a, sort));
                break;
            case 4:
                due("records(" + (a - 2) + ")", x.records(a - 2), model.records(a - 2));
                break;
            case 5:
                due("record(" + b + ", " + a + ")", x.record(b, a), model.record(b, a));
                break;
            case 6:
                due("takings(" + (a - 1) + ")", x.takings(a - 1), model.takings(a - 1));
                break;
            case 7:
                due("mean()", x.mean(), model.mean());
                break;
            case 8:
                due("times(" + sort + ")", x.times(sort), model.times(sort));
                break;
            case 9:
                due("operations(" + sort + ")", x.operations(sort), model.operations(sort));
                break;
            case 10:
                int operations = argument(0, 30);
                due("after(" + sort + ", " + operations + ", " + a + ")",
                        x.after(sort, operations, a), model.after(sort, operations, a));
                break;
            default:
                due("needed(" + sort + ")", x.needed(sort), model.needed(sort));
                break;
        }
    }

    /** Some 180 calls: with those before they stay within an object's 512. */
    private void readAll() {
        for (int what = 0; what <= 12; what++) {
            due("told(" + what + ")", x.told(what), model.told(what));
        }
        for (int block = 0; block < 5; block++) {
            for (int k = 0; k < 22; k++) {
                due("word(" + block + ", " + k + ")", x.word(block, k), model.word(block, k));
            }
            for (int what = 0; what < 5; what++) {
                due("block(" + block + ", " + what + ")", x.block(block, what), model.block(block, what));
            }
        }
        for (int i = -2; i <= 4; i++) {
            due("records(" + i + ")", x.records(i), model.records(i));
            due("takings(" + i + ")", x.takings(i), model.takings(i));
            due("times(" + i + ")", x.times(i), model.times(i));
            due("price(" + i + ")", x.price(i), model.price(i));
        }
        due("mean()", x.mean(), model.mean());
    }
}
