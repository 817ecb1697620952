/** The boundaries that the description names, ahead of the promises, and those of promise 1. */
public final class BoundsFlashTest {
    private static final Check CHECK = new Check();
    private static final int ERASED = 65535;

    public static void main(String[] args) {
        firstCodeOfTheList();
        noneOnlyWithoutAnErrorCode();
        cutAtZero();
        cutAboveZero();
        cutIsSetNoMore();
        allWordsAreErased();
        blockIsWholeAtItsSixthWord();
        blockCheckAtTheModulus();
        placeIsEmptyTornOrWhole();
        recordCheckAtTheModulus();
        recordCheckHasTheSequenceNumber();
        greatestWords();
        atTheBeginning();
        nextPlaceIsAtMostFour();
        lostWhenOff();
        blockBehindTheCurrentOne();
        blockZeroBehindBlockFour();
        sixWordsThenFour();
        nextPlaceBehindTornOnes();
        newestOfFiveWholeBlocks();
        newestBesideATornBlock();
        headerAloneIsRead();
        eightStates();
        oldestStateIsDropped();
        refusedCallsAreNotRecorded();
        cutCallsAreRecorded();
        newObject();
        objectsAreApart();
        CHECK.end("BoundsFlashTest");
    }

    // conventions

    private static void firstCodeOfTheList() {
        CHECK.sentence("If several of them apply to one call, the first one in this list is returned");
        TicketJournal x = new TicketJournal();
        Given.fullDay(x);
        x.load(0, 0);
        CHECK.due("sell(0), STATE and OUT", x.sell(0), Check.STATE);
        CHECK.due("sell(4), BAD, STATE and OUT", x.sell(4), Check.BAD);
        CHECK.due("operations(0), STATE and OUT", x.operations(0), Check.STATE);
        CHECK.due("operations(-1), BAD, STATE and OUT", x.operations(-1), Check.BAD);
        CHECK.due("after(0, 0, 0), STATE and OUT", x.after(0, 0, 0), Check.STATE);
        CHECK.due("after(0, 31, 0), BAD, STATE and OUT", x.after(0, 31, 0), Check.BAD);
        CHECK.due("after(0, 0, 5), BAD, STATE and OUT", x.after(0, 0, 5), Check.BAD);
        CHECK.due("after(4, 0, 0), BAD, STATE and OUT", x.after(4, 0, 0), Check.BAD);
        CHECK.due("needed(0), STATE and OUT", x.needed(0), Check.STATE);
        CHECK.due("needed(4), BAD, STATE and OUT", x.needed(4), Check.BAD);
        x.off();
        CHECK.due("load(50001, 0), BAD and STATE", x.load(50001, 0), Check.BAD);
        CHECK.due("load(0, -1), BAD and STATE", x.load(0, -1), Check.BAD);
        CHECK.due("setClock(-1), BAD and STATE", x.setClock(-1), Check.BAD);
        CHECK.due("back(2), BAD and STATE", x.back(2), Check.BAD);
        x = new TicketJournal();
        CHECK.due("sell(4), BAD and OUT", x.sell(4), Check.BAD);
        CHECK.due("operations(4), BAD and OUT", x.operations(4), Check.BAD);
        CHECK.due("after(0, -1, 0), BAD and OUT", x.after(0, -1, 0), Check.BAD);
        CHECK.due("after(0, 0, -1), BAD and OUT", x.after(0, 0, -1), Check.BAD);
        CHECK.due("needed(-1), BAD and OUT", x.needed(-1), Check.BAD);
    }

    private static void noneOnlyWithoutAnErrorCode() {
        CHECK.sentence("NONE is returned only if no error code applies");
        TicketJournal x = new TicketJournal();
        x.off();
        CHECK.due("told(13)", x.told(13), Check.BAD);
        CHECK.due("told(-1)", x.told(-1), Check.BAD);
        CHECK.due("block(1, 5)", x.block(1, 5), Check.BAD);
        CHECK.due("block(5, 1)", x.block(5, 1), Check.BAD);
        CHECK.due("record(0, 6)", x.record(0, 6), Check.BAD);
        CHECK.due("record(-1, 0)", x.record(-1, 0), Check.BAD);
        CHECK.due("cut(101) with no cut set", x.cut(101), Check.BAD);
        CHECK.due("cut(-2) with no cut set", x.cut(-2), Check.BAD);
    }

    // flash

    private static void cutAtZero() {
        CHECK.sentence("when a flash operation is to be done, and the number is 0, the operation is not done");
        TicketJournal x = new TicketJournal();
        x.cut(0);
        CHECK.due("told(0): nothing is to be done yet", x.told(0), 1);
        CHECK.due("told(11)", x.told(11), 0);
        CHECK.due("close()", x.close(), Check.CUT);
        CHECK.due("told(0)", x.told(0), 0);
        CHECK.due("told(10)", x.told(10), 0);
        CHECK.dueWords(x, 0, 6, ERASED, ERASED, ERASED, ERASED);
        x = Given.closed(4);
        x.cut(0);
        CHECK.due("close() that has to erase", x.close(), Check.CUT);
        CHECK.due("told(10)", x.told(10), 16);
        CHECK.due("block(1, 4)", x.block(1, 4), 0);
    }

    private static void cutAboveZero() {
        CHECK.sentence("otherwise the number decreases by 1, and the operation is done");
        TicketJournal x = new TicketJournal();
        x.cut(100);
        for (int i = 1; i <= 4; i++) {
            x.close();
            CHECK.due("told(11) behind " + i + " records", x.told(11), 100 - 4 * i);
            CHECK.due("told(10)", x.told(10), 4 * i);
        }
        x.close();
        CHECK.due("told(11): the erasing is one, the words are ten", x.told(11), 73);
        CHECK.due("told(10)", x.told(10), 27);
        x = new TicketJournal();
        x.cut(4);
        CHECK.due("close() with just enough left", x.close(), 0);
        CHECK.due("told(0)", x.told(0), 1);
        CHECK.due("told(11)", x.told(11), 0);
        x = new TicketJournal();
        x.cut(3);
        CHECK.due("close() with one too few", x.close(), Check.CUT);
        CHECK.due("told(10)", x.told(10), 3);
    }

    private static void cutIsSetNoMore() {
        CHECK.sentence("the power is off, the cut is not set any more, and what was going on ends there");
        TicketJournal x = new TicketJournal();
        Given.closeCut(x, 2);
        CHECK.due("told(0)", x.told(0), 0);
        CHECK.due("told(11)", x.told(11), Check.NONE);
        CHECK.dueWords(x, 0, 6, 30000, 0, ERASED, ERASED);
        x.start();
        CHECK.due("told(11)", x.told(11), Check.NONE);
        Given.close(x, 30);
        CHECK.due("told(0): no cut comes again", x.told(0), 1);
        CHECK.due("cut(-1)", x.cut(-1), Check.NONE);
    }

    private static void allWordsAreErased() {
        CHECK.sentence("the erasing of one block, by which all its words are erased");
        TicketJournal x = Given.closed(20);
        Given.closeCut(x, 1);
        for (int k = 0; k < 22; k++) {
            CHECK.dueWords(x, 0, k, ERASED);
        }
        for (int block = 1; block < 5; block++) {
            CHECK.due("block(" + block + ", 2): the others stay", x.block(block, 2), 4);
        }
    }

    private static void blockIsWholeAtItsSixthWord() {
        CHECK.sentence("A block is whole if none of these five words is erased, and the sixth word is the right check");
        int check = 3 + 13 * 4 + 1;
        int[] words = {1, 0, 0, 0, 4, check};
        for (int written = 0; written <= 6; written++) {
            TicketJournal x = Given.closed(4);
            Given.closeCut(x, 1 + written);
            for (int k = 0; k < 6; k++) {
                CHECK.dueWords(x, 1, k, k < written ? words[k] : ERASED);
            }
            CHECK.dueBlock(x, 1, written == 6 ? 1 : 0, written == 6 ? 1 : Check.NONE, 0, 0, 1);
        }
    }

    private static void blockCheckAtTheModulus() {
        CHECK.sentence("(3 * a + 5 * b + 7 * c + 11 * d + 13 * e + 1) modulo 65521");
        // 3 * 1 + 5 * 17 + 7 * 1 + 11 * 5943 + 13 * 4 + 1 is 65521 itself.
        dueBlockCheck(17, 5943, 0);
        // 3 * 1 + 5 * 8 + 7 * 1 + 11 * 5947 + 13 * 4 + 1 is 65520.
        dueBlockCheck(8, 5947, 65520);
        // 3 + 5 * 999 + 7 + 11 * 49960 + 52 + 1 is 554618, more than 8 times 65521.
        dueBlockCheck(999, 49960, 554618 - 8 * 65521);
    }

    private static void dueBlockCheck(int price, int paper, int check) {
        TicketJournal x = Given.loaded(paper + 40, 40);
        x.setPrice(0, price);
        x.sell(0);
        x.setClock(9);
        x.setClock(18);
        x.setClock(27);
        CHECK.dueWords(x, 1, 0, 1, price, 1, paper, 4, check);
        CHECK.due("block(1, 0)", x.block(1, 0), 1);
        x.off();
        CHECK.due("start()", x.start(), 5);
    }

    private static void placeIsEmptyTornOrWhole() {
        CHECK.sentence("A place is empty if its four words are erased; otherwise it contains a record, whole or torn");
        for (int written = 0; written <= 4; written++) {
            TicketJournal x = new TicketJournal();
            Given.closeCut(x, written);
            CHECK.due("block(0, 2), " + written + " words", x.block(0, 2), written == 4 ? 1 : 0);
            CHECK.due("block(0, 3), " + written + " words", x.block(0, 3), written % 4 == 0 ? 0 : 1);
            CHECK.due("records(-1), " + written + " words", x.records(-1), written == 4 ? 1 : 0);
            CHECK.due("records(-2), " + written + " words", x.records(-2), written % 4 == 0 ? 0 : 1);
        }
    }

    private static void recordCheckAtTheModulus() {
        CHECK.sentence("(3 * a + 5 * b + 7 * c + 11 * s + 2) modulo 65521");
        // 3 * 1 + 5 * 12889 + 7 * 153 + 2 is 65521 itself.
        dueRecordCheck(12889, 153, 0);
        // 3 * 1 + 5 * 12893 + 7 * 150 + 2 is 65520.
        dueRecordCheck(12893, 150, 65520);
        // 3 * 1 + 5 * 60000 + 7 * 999 + 2 is 306998, more than 4 times 65521.
        dueRecordCheck(60000, 999, 306998 - 4 * 65521);
    }

    private static void dueRecordCheck(int time, int price, int check) {
        TicketJournal x = Given.loaded(40, 40);
        for (int passed = 0; passed < time; passed += 5000) {
            x.pass(Math.min(5000, time - passed));
        }
        x.setPrice(0, price);
        x.sell(0);
        CHECK.dueWords(x, 0, 10, 1, time, price, check);
        CHECK.due("records(0)", x.records(0), 1);
        CHECK.due("records(-2)", x.records(-2), 0);
    }

    private static void recordCheckHasTheSequenceNumber() {
        CHECK.sentence("and the sequence number s of its block");
        TicketJournal x = Given.closed(21);
        // 3 * 30020 + 11 * 5 + 2, and 65521 less, for block 0 is the sixth one that was begun.
        CHECK.dueWords(x, 0, 6, 30020, 0, 0, 90117 - 65521);
        CHECK.dueWords(x, 4, 18, 30019, 0, 0, 3 * 30019 + 11 * 4 + 2 - 65521);
    }

    private static void greatestWords() {
        CHECK.sentence("0 a ticket, whose value is 1000 * its sort + its price .. 4 paper, whose value is the length");
        TicketJournal x = new TicketJournal();
        Given.fullDay(x);
        CHECK.due("close()", x.close(), 60000);
        CHECK.dueRecord(x, x.records(-1) - 1, 76, 3, 0, 60000, 4, 0);
        x.load(50000, 50000);
        x.setPrice(3, 999);
        x.setPrice(0, 1);
        x.sell(3);
        CHECK.dueRecord(x, x.records(-1) - 1, 78, 0, 0, 3999, 4, 2);
        x.sell(0);
        CHECK.dueRecord(x, x.records(-1) - 1, 79, 0, 0, 1, 4, 3);
        x.setClock(60000);
        x.setClock(0);
        CHECK.dueRecord(x, x.records(-1) - 1, 81, 2, 0, 60000, 0, 1);
        CHECK.dueRecord(x, x.records(-1) - 2, 80, 2, 60000, 0, 0, 0);
        CHECK.due("records(-2)", x.records(-2), 0);
        x.off();
        CHECK.due("start()", x.start(), 82);
        CHECK.due("told(5)", x.told(5), 49860);
    }

    private static void atTheBeginning() {
        CHECK.sentence("At the beginning, block 0 is whole, with 0 as its first five words, and all its places are empty");
        TicketJournal x = new TicketJournal();
        CHECK.dueWords(x, 0, 0, 0, 0, 0, 0, 0, 1);
        CHECK.dueBlock(x, 0, 1, 0, 0, 0, 0);
        CHECK.sentence("all other words are erased");
        for (int at = 6; at < 5 * 22; at++) {
            CHECK.dueWords(x, at / 22, at % 22, ERASED);
        }
        for (int block = 1; block < 5; block++) {
            CHECK.dueBlock(x, block, 0, Check.NONE, 0, 0, 0);
        }
    }

    // memory

    private static void nextPlaceIsAtMostFour() {
        CHECK.sentence("its next place (0 to 4; 4 if it has no more)");
        TicketJournal x = new TicketJournal();
        int[] places = {0, 1, 2, 3, 4, 1, 2, 3, 4, 1};
        for (int i = 0; i < places.length; i++) {
            CHECK.due("told(7) behind " + i + " records", x.told(7), places[i]);
            CHECK.due("told(6) behind " + i + " records", x.told(6), i == 0 ? 0 : (i - 1) / 4);
            x.close();
        }
    }

    private static void lostWhenOff() {
        CHECK.sentence("When the power is off, all this is lost");
        TicketJournal x = Given.loaded(1000, 1000);
        x.sell(0);
        x.off();
        for (int what = 2; what <= 7; what++) {
            CHECK.due("told(" + what + ")", x.told(what), Check.NONE);
        }
        x.undo();
        x.cut(0);
        x.sell(0);
        for (int what = 2; what <= 7; what++) {
            CHECK.due("told(" + what + ") behind a cut", x.told(what), Check.NONE);
        }
    }

    private static void blockBehindTheCurrentOne() {
        CHECK.sentence("if the next place is 4, the block behind the current one is erased, and its first 6 words written");
        TicketJournal x = Given.closed(3);
        CHECK.due("close() at place 3", x.close(), 0);
        CHECK.dueBlock(x, 1, 0, Check.NONE, 0, 0, 0);
        CHECK.due("told(10)", x.told(10), 16);
        CHECK.due("close() at place 4", x.close(), 0);
        CHECK.dueBlock(x, 1, 1, 1, 1, 0, 1);
        CHECK.due("told(10)", x.told(10), 27);
    }

    private static void blockZeroBehindBlockFour() {
        CHECK.sentence("(behind 4 comes 0)");
        TicketJournal x = Given.closed(20);
        CHECK.due("told(6)", x.told(6), 4);
        CHECK.dueBlock(x, 0, 1, 0, 4, 0, 0);
        x.close();
        CHECK.due("told(6)", x.told(6), 0);
        CHECK.dueBlock(x, 0, 1, 5, 1, 0, 1);
        CHECK.dueBlock(x, 4, 1, 4, 4, 0, 1);
        CHECK.dueWords(x, 0, 0, 5, 0, 0, 0, 20, 15 + 260 + 1, 30020);
        Given.close(x, 20);
        CHECK.due("told(6) a round later", x.told(6), 0);
        CHECK.dueBlock(x, 0, 1, 10, 1, 0, 2);
    }

    private static void sixWordsThenFour() {
        CHECK.sentence("its first 6 words are written in ascending order .. Then the 4 words of the record");
        int header = 3 + 11 * 700 + 13 * 4 + 1;
        int record = 3 * 4 + 5 * 8 + 7 * 2400 + 11 + 2;
        int[] words = {1, 0, 0, 700, 4, header, 4, 8, 2400, record};
        for (int operations = 1; operations <= 11; operations++) {
            TicketJournal x = Given.loaded(700, 700);
            Given.close(x, 3);
            x.pass(8);
            x.cut(operations);
            CHECK.due("sell(2), cut(" + operations + ")", x.sell(2), operations == 11 ? 4 : Check.CUT);
            for (int k = 0; k < words.length; k++) {
                CHECK.dueWords(x, 1, k, k < operations - 1 ? words[k] : ERASED);
            }
            CHECK.dueWords(x, 1, words.length, ERASED);
        }
    }

    private static void nextPlaceBehindTornOnes() {
        CHECK.sentence("The next place is the first one that is empty and behind which no place follows that is not empty");
        TicketJournal x = new TicketJournal();
        for (int torn = 1; torn <= 4; torn++) {
            Given.closeCut(x, 1);
            CHECK.due("start()", x.start(), 0);
            CHECK.due("told(7) behind " + torn + " torn records", x.told(7), torn);
            CHECK.due("told(6)", x.told(6), 0);
        }
        CHECK.dueBlock(x, 0, 1, 0, 0, 4, 0);
        CHECK.sentence("(4 if there is none)");
        x.close();
        CHECK.due("told(6)", x.told(6), 1);
        CHECK.dueRecord(x, 0, 0, 3, 0, 0, 1, 0);
        x = Given.closed(1);
        x.cut(0);
        x.close();
        x.start();
        CHECK.due("told(7) when the place stayed empty", x.told(7), 1);
        Given.close(x, 2);
        Given.closeCut(x, 3);
        CHECK.due("start()", x.start(), 3);
        CHECK.due("told(7) behind a torn record at place 3", x.told(7), 4);
        x = Given.closed(4);
        x.off();
        CHECK.due("start()", x.start(), 4);
        CHECK.due("told(7) of a full block", x.told(7), 4);
    }

    private static void newestOfFiveWholeBlocks() {
        CHECK.sentence("the one for which there is no whole block whose sequence number is 1 greater");
        for (int records = 17; records <= 45; records += 4) {
            TicketJournal x = Given.closed(records);
            for (int block = 0; block < 5; block++) {
                CHECK.due("block(" + block + ", 0)", x.block(block, 0), 1);
            }
            int current = x.told(6);
            x.off();
            CHECK.due("start()", x.start(), records);
            CHECK.due("told(6)", x.told(6), current);
            CHECK.due("told(6)", x.told(6), (records - 1) / 4 % 5);
            CHECK.due("told(7)", x.told(7), 1);
        }
    }

    private static void newestBesideATornBlock() {
        CHECK.sentence("the current block is the newest one of the whole blocks");
        for (int records = 4; records <= 44; records += 4) {
            TicketJournal x = Given.closed(records);
            Given.closeCut(x, 6);
            CHECK.due("start() behind a torn block", x.start(), records);
            CHECK.due("told(6)", x.told(6), (records / 4 - 1) % 5);
            CHECK.due("told(7)", x.told(7), 4);
            x.close();
            CHECK.due("told(6): it is begun again", x.told(6), records / 4 % 5);
            CHECK.due("block(" + x.told(6) + ", 1)", x.block(x.told(6), 1), records / 4);
            CHECK.due("record(.., 0)", x.record(x.records(-1) - 1, 0), records);
        }
    }

    private static void headerAloneIsRead() {
        CHECK.sentence("What the printer knows is what the block's first words say, and then, for each whole record");
        TicketJournal x = Given.loaded(1000, 1000);
        x.sell(0);
        x.sell(1);
        x.sell(2);
        x.cut(7);
        CHECK.due("sell(3) cut behind the first six words", x.sell(3), Check.CUT);
        CHECK.due("start()", x.start(), 4);
        CHECK.dueTold(x, 1, 0, 4, 800, 3, 820, 1, 0);
        x.cut(3);
        CHECK.due("sell(3), torn", x.sell(3), Check.CUT);
        CHECK.due("start()", x.start(), 4);
        CHECK.dueTold(x, 1, 0, 4, 800, 3, 820, 1, 1);
        CHECK.due("sell(3) behind the torn one", x.sell(3), 4);
        x.off();
        CHECK.due("start()", x.start(), 5);
        CHECK.dueTold(x, 1, 0, 5, 1600, 4, 720, 1, 2);
    }

    // changes

    private static void eightStates() {
        CHECK.sentence("A history of at most 8 states is kept");
        TicketJournal x = new TicketJournal();
        for (int i = 1; i <= 8; i++) {
            x.pass(1);
            CHECK.due("told(12)", x.told(12), i);
        }
        for (int i = 7; i >= 0; i--) {
            CHECK.due("undo()", x.undo(), i);
            CHECK.due("told(1)", x.told(1), i);
        }
        CHECK.due("undo() of no more", x.undo(), Check.STATE);
    }

    private static void oldestStateIsDropped() {
        CHECK.sentence("if there are more than 8, the oldest one is dropped");
        for (int changes = 9; changes <= 26; changes++) {
            TicketJournal x = new TicketJournal();
            for (int i = 0; i < changes; i++) {
                x.pass(1);
            }
            CHECK.due("told(12)", x.told(12), 8);
            for (int i = 7; i >= 0; i--) {
                CHECK.due("undo()", x.undo(), i);
            }
            CHECK.due("told(1) behind " + changes + " changes", x.told(1), changes - 8);
            CHECK.due("undo() of the one that is dropped", x.undo(), Check.STATE);
        }
    }

    private static void refusedCallsAreNotRecorded() {
        CHECK.sentence("a change that returns no error code records everything before it");
        TicketJournal x = new TicketJournal();
        x.pass(1);
        x.sell(4);
        x.sell(0);
        x.cancel();
        x.load(-1, 0);
        x.setClock(60001);
        x.pass(0);
        x.setPrice(0, 0);
        x.cut(101);
        x.start();
        x.back(0);
        x.back(2);
        CHECK.due("told(12)", x.told(12), 1);
        x.off();
        x.sell(0);
        x.cancel();
        x.close();
        x.load(0, 0);
        x.setClock(0);
        x.off();
        CHECK.due("told(12)", x.told(12), 2);
        CHECK.due("undo()", x.undo(), 1);
        CHECK.due("undo()", x.undo(), 0);
        x.undo();
        CHECK.due("told(12)", x.told(12), 0);
    }

    private static void cutCallsAreRecorded() {
        CHECK.sentence("CUT (-4) is no error: the power was lost during the call, and what had been done stays");
        CHECK.dueChange("sell(0)", x -> cutBehind(x, 2), x -> x.sell(0), Check.CUT);
        CHECK.dueChange("cancel()", x -> cutBehind(x, 0), x -> x.cancel(), Check.CUT);
        CHECK.dueChange("close()", x -> cutBehind(x, 3), x -> x.close(), Check.CUT);
        CHECK.dueChange("load(5, 6)", x -> cutBehind(x, 1), x -> x.load(5, 6), Check.CUT);
        CHECK.dueChange("setClock(5)", x -> cutBehind(x, 0), x -> x.setClock(5), Check.CUT);
        TicketJournal x = new TicketJournal();
        cutBehind(x, 2);
        x.sell(0);
        CHECK.dueWords(x, 0, 14, 2, 0, ERASED, ERASED);
        CHECK.due("told(10)", x.told(10), 10);
    }

    private static void cutBehind(TicketJournal x, int operations) {
        x.load(1000, 1000);
        x.sell(0);
        x.cut(operations);
    }

    // promise 1

    private static void newObject() {
        CHECK.sentence("1 TicketJournal: Creates a printer that is on");
        TicketJournal x = new TicketJournal();
        CHECK.due("told(0)", x.told(0), 1);
        CHECK.due("start()", x.start(), Check.STATE);
        CHECK.sentence("1 TicketJournal: no cut is set");
        CHECK.due("told(11)", x.told(11), Check.NONE);
        CHECK.due("cut(-1)", x.cut(-1), Check.NONE);
        CHECK.sentence("1 TicketJournal: no block was erased");
        for (int block = 0; block < 5; block++) {
            CHECK.due("block(" + block + ", 4)", x.block(block, 4), 0);
        }
        CHECK.sentence("1 TicketJournal: the images keep nothing");
        CHECK.due("back(0)", x.back(0), Check.STATE);
        CHECK.due("back(1)", x.back(1), Check.STATE);
        CHECK.sentence("1 TicketJournal: nothing can be undone");
        x = new TicketJournal();
        CHECK.due("told(12)", x.told(12), 0);
        CHECK.due("undo()", x.undo(), Check.STATE);
        CHECK.sentence("1 TicketJournal: At the beginning the current block is 0, its next place 0, and the others are 0");
        CHECK.dueTold(x, 1, 0, 0, 0, 0, 0, 0, 0, 0, 0, 0, Check.NONE, 0);
        CHECK.sentence("1 TicketJournal: at first 150, 250, 400 and 800");
        for (int sort = 0; sort < 4; sort++) {
            CHECK.due("price(" + sort + ")", x.price(sort), Given.PRICES[sort]);
        }
    }

    private static void objectsAreApart() {
        CHECK.sentence("1 TicketJournal: Creates a printer");
        TicketJournal used = Given.loaded(500, 500);
        used.sell(2);
        used.setPrice(0, 9);
        used.keep(0);
        used.cut(3);
        CHECK.dueNoChange("another printer", x -> { }, x -> used.close());
        TicketJournal fresh = new TicketJournal();
        CHECK.dueTold(fresh, 1, 0, 0, 0, 0, 0, 0, 0, 0, 0, 0, Check.NONE, 0);
        CHECK.due("price(0)", fresh.price(0), 150);
        CHECK.due("back(0)", fresh.back(0), Check.STATE);
    }
}
