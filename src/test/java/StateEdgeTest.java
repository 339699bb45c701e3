/** "What it is", "Terms" and promises 1 to 9: each sentence that names a boundary case has a test of its own. */
public final class StateEdgeTest {
    private static final Check CHECK = new Check("StateEdgeTest");
    private static final int NONE = ReversalDesk.NONE;
    private static final int LEAST = Integer.MIN_VALUE;
    private static final int GREATEST = Integer.MAX_VALUE;
    private static final String FULL = "+1 -2   +3 -4 +5 -6     ";

    public static void main(String[] args) {
        reversalsUpToTheLastCall();
        textsUpToTheLastCall();
        questionsUpToTheLastCall();
        slotsZeroToFour();
        reversalOfPlaces();

        newFourGenes();
        newPlainOrders();
        newEmptyText();
        newNoScenario();

        genesOneToSix();
        genesPlainOrders();
        genesNothingUndone();
        genesNoScenario();
        genesTextStays();
        genesRefused();

        writeLowestFirst();
        writeBehindTheText();
        writeBytesZeroLeftOut();
        writeUpToTwentyFour();
        writeMoreThanTwentyFour();

        wipeEmptiesTheText();
        wipeAnswersHowMany();

        readSigns();
        readBlanks();
        readNoBlankBehindASign();
        readDoneEmptiesTheText();
        readDoneLeavesNothingToUndo();
        readFirstWrongCharacter();
        readEndsTooEarly();
        readWrongChangesNothing();
        readFullText();

        genePlaces();
        geneOtherPlaces();

        copyGetsTheOrder();
        copyNothingUndone();
        copyOntoItself();

        reverseBelowZero();
        reverseAboveTheLast();
        reverseWrongWayRound();

        undoLatestNotUndone();
        undoNoneLeft();
        undoLatestEight();
        CHECK.end();
    }

    // What it is

    private static void reversalsUpToTheLastCall() {
        CHECK.sentence("What it is: An object is used for at most 512 calls after it has been made");
        ReversalDesk desk = new ReversalDesk();
        for (int k = 0; k < 499; k++) {
            desk.reverse(0, 0, k % 4);
        }
        for (int k = 500; k <= 507; k++) {
            CHECK.yes("undo, call " + k, desk.undo(0));
        }
        CHECK.no("undo, call 508", desk.undo(0));
        // 24 of them come back to the plain order, so 491 do what 11 do.
        CHECK.same("genes, calls 509 to 512", Check.order(desk, 0, 4), "4 3 2 1");
    }

    private static void textsUpToTheLastCall() {
        CHECK.sentence("What it is: at most 512 calls (texts)");
        ReversalDesk desk = new ReversalDesk();
        for (int k = 0; k < 170; k++) {
            CHECK.same("write", desk.write(Check.packed(k % 2 == 0 ? "-4321" : "34-12")[0]), 5);
            CHECK.same("read", desk.read(k % 5), NONE);
            CHECK.same("gene", desk.gene(k % 5, 0), k % 2 == 0 ? -4 : 3);
        }
        CHECK.same("write, call 511", desk.write('1'), 1);
        CHECK.same("wipe, call 512", desk.wipe(), 1);
    }

    private static void questionsUpToTheLastCall() {
        CHECK.sentence("What it is: at most 512 calls (questions)");
        // Of -4 -3 -2 -1 and 1 -2 3 4. Ends of the row -4 -3 2 -1: 0 8 7 6 5 3 4 2 1 9.
        long[] due = {2, 4, 8, 1, 2, 3, 2, 170, 2, -4, 0};
        for (int last = 0; last < due.length; last++) {
            ReversalDesk desk = new ReversalDesk();
            desk.reverse(0, 0, 3);
            desk.reverse(1, 1, 1);
            for (int k = 0; k < 509; k++) {
                CHECK.same("call " + (k + 3), ask(desk, k % due.length), due[k % due.length]);
            }
            CHECK.same("call 512 of kind " + last, ask(desk, last), due[last]);
        }
    }

    private static long ask(ReversalDesk desk, int kind) {
        switch (kind) {
            case 0:
                return desk.distance(0, 1);
            case 1:
                return desk.drawing(0, 1, 5);
            case 2:
                return desk.line(0, 1, 0);
            case 3:
                return desk.interval(0, 1, 0);
            case 4:
                return desk.scenario(0, 1);
            case 5:
                return desk.step(0);
            case 6:
                return desk.ways(0, 1);
            case 7:
                return desk.circle(1, 3);
            case 8:
                return desk.median(0, 1, 1);
            case 9:
                return desk.gene(0, 0);
            default:
                return desk.write(0);
        }
    }

    // Terms

    private static void slotsZeroToFour() {
        CHECK.sentence("Terms: SLOTS 0 .. 4 have an order each");
        ReversalDesk desk = new ReversalDesk();
        String[] orders = {"-1 2 3 4", "-2 -1 3 4", "-3 -2 -1 4", "-4 -3 -2 -1", "1 2 3 -4"};
        for (int slot = 0; slot < 4; slot++) {
            desk.reverse(slot, 0, slot);
        }
        desk.reverse(4, 3, 3);
        for (int slot = 0; slot < 5; slot++) {
            CHECK.same("slot " + slot, Check.order(desk, slot, 4), orders[slot]);
        }
    }

    private static void reversalOfPlaces() {
        CHECK.sentence("Terms: A REVERSAL of the places i .. j turns that part round and changes all signs in it");
        ReversalDesk desk = new ReversalDesk();
        desk.genes(6);
        desk.reverse(0, 5, 5);
        CHECK.same("one place alone", Check.order(desk, 0, 6), "1 2 3 4 5 -6");
        desk.reverse(0, 0, 5);
        CHECK.same("all places", Check.order(desk, 0, 6), "6 -5 -4 -3 -2 -1");
        desk.reverse(0, 1, 3);
        CHECK.same("a middle one, too", Check.order(desk, 0, 6), "6 3 4 5 -2 -1");
        desk.genes(1);
        desk.reverse(0, 0, 0);
        CHECK.same("the only place", Check.order(desk, 0, 1), "-1");
        desk.reverse(0, 0, 0);
        CHECK.same("and again", Check.order(desk, 0, 1), "1");
    }

    // Promise 1

    private static void newFourGenes() {
        CHECK.sentence("Promise 1: Four genes");
        ReversalDesk desk = new ReversalDesk();
        CHECK.same("the fourth place", desk.gene(0, 3), 4);
        CHECK.outOfBounds("a fifth place", () -> desk.gene(0, 4));
        CHECK.same("the fifth gray line", desk.line(0, 1, 4), 809);
        CHECK.illegalArgument("a sixth gray line", () -> desk.line(0, 1, 5));
    }

    private static void newPlainOrders() {
        CHECK.sentence("Promise 1: all slots have the plain order");
        ReversalDesk desk = new ReversalDesk();
        for (int slot = 0; slot < 5; slot++) {
            CHECK.same("slot " + slot, Check.order(desk, slot, 4), "1 2 3 4");
            CHECK.no("undo of slot " + slot, desk.undo(slot));
        }
    }

    private static void newEmptyText() {
        CHECK.sentence("Promise 1: an empty text");
        CHECK.same("wipe", new ReversalDesk().wipe(), 0);
        CHECK.same("read", new ReversalDesk().read(0), 0);
        CHECK.same("write of nothing", new ReversalDesk().write(0), 0);
    }

    private static void newNoScenario() {
        CHECK.sentence("Promise 1: no scenario");
        ReversalDesk desk = new ReversalDesk();
        CHECK.illegalState("step 0", () -> desk.step(0));
        CHECK.illegalState("step -1", () -> desk.step(-1));
    }

    // Promise 2

    private static void genesOneToSix() {
        CHECK.sentence("Promise 2: N becomes n");
        for (int n = 1; n <= 6; n++) {
            int genes = n;
            ReversalDesk desk = new ReversalDesk();
            desk.genes(n);
            CHECK.same("the last place of " + n, desk.gene(0, n - 1), n);
            CHECK.outOfBounds("a place behind it", () -> desk.gene(0, genes));
            desk.reverse(0, 0, n - 1);
            CHECK.same("all places reversed", desk.gene(0, 0), -n);
            CHECK.outOfBounds("one more", () -> desk.reverse(0, 0, genes));
        }
    }

    private static void genesPlainOrders() {
        CHECK.sentence("Promise 2: all slots have the plain order");
        ReversalDesk desk = new ReversalDesk();
        int[] numbers = {4, 6, 6, 1, 1, 5, 2, 6, 3};
        for (int n : numbers) {
            desk.genes(n);
            for (int slot = 0; slot < 5; slot++) {
                CHECK.same("slot " + slot + " of " + n, Check.order(desk, slot, n), "1 2 3 4 5 6".substring(0, 2 * n - 1));
                desk.reverse(slot, 0, n - 1);
            }
        }
    }

    private static void genesNothingUndone() {
        CHECK.sentence("Promise 2: nothing can be undone");
        for (int n = 1; n <= 6; n++) {
            ReversalDesk desk = new ReversalDesk();
            for (int slot = 0; slot < 5; slot++) {
                desk.reverse(slot, 0, slot % 4);
            }
            desk.genes(n);
            for (int slot = 0; slot < 5; slot++) {
                CHECK.no("undo of slot " + slot, desk.undo(slot));
            }
        }
    }

    private static void genesNoScenario() {
        CHECK.sentence("Promise 2: there is no scenario");
        ReversalDesk desk = new ReversalDesk();
        desk.reverse(0, 0, 1);
        desk.scenario(0, 1);
        desk.genes(4);
        CHECK.illegalState("step after the same number", () -> desk.step(0));
        desk.scenario(0, 1);
        CHECK.illegalArgument("a scenario of no reversals", () -> desk.step(0));
        desk.genes(5);
        CHECK.illegalState("step after another number", () -> desk.step(0));
    }

    private static void genesTextStays() {
        CHECK.sentence("Promise 2: (the text stays)");
        ReversalDesk desk = new ReversalDesk();
        Check.write(desk, FULL);
        desk.genes(1);
        CHECK.same("a full text of six genes, for one", desk.read(0), 3);
        desk.genes(6);
        CHECK.same("and for six", desk.read(0), NONE);
        CHECK.same("all of it", Check.order(desk, 0, 6), "1 -2 3 -4 5 -6");
        desk.genes(2);
        CHECK.same("an empty text stays, too", desk.wipe(), 0);
    }

    private static void genesRefused() {
        CHECK.sentence("Promise 2: IllegalArgumentException: n is not 1 .. 6.");
        ReversalDesk desk = new ReversalDesk();
        for (int n : new int[] {0, 7, -1, -6, LEAST, GREATEST}) {
            CHECK.illegalArgument("genes(" + n + ")", () -> desk.genes(n));
        }
    }

    // Promise 3

    private static void writeLowestFirst() {
        CHECK.sentence("Promise 3: the eight bytes of a long, the lowest first");
        CHECK.same("lowest", readAfter(4, 0x34_33_32_31L), "1 2 3 4");
        CHECK.same("eight", readAfter(4, 0x34_2D_33_2B_32_2D_31_2BL), "1 -2 3 -4");
    }

    private static String readAfter(int genes, long... written) {
        ReversalDesk desk = new ReversalDesk();
        desk.genes(genes);
        for (long characters : written) {
            desk.write(characters);
        }
        int answer = desk.read(0);
        return answer == NONE ? Check.order(desk, 0, genes) : "wrong at " + answer;
    }

    private static void writeBehindTheText() {
        CHECK.sentence("Promise 3: come behind the text");
        CHECK.same("one by one", readAfter(3, '3', '-', '1', '2'), "3 -1 2");
        CHECK.same("behind blanks", readAfter(3, ' ', 0x31_32_2DL, '3'), "-2 1 3");
    }

    private static void writeBytesZeroLeftOut() {
        CHECK.sentence("Promise 3: bytes 0 left out");
        ReversalDesk desk = new ReversalDesk();
        CHECK.same("all eight are 0", desk.write(0L), 0);
        CHECK.same("all but the highest", desk.write(0x31L << 56), 1);
        CHECK.same("all but the lowest", desk.write(0x32L), 2);
        CHECK.same("every second one", desk.write(0x33_00_00_00_34_00L), 4);
        CHECK.same("none is in the text", desk.read(0), NONE);
        CHECK.same("the text", Check.order(desk, 0, 4), "1 2 4 3");
        CHECK.same("a byte 128 is not 0", desk.write(0x80_00L), 1);
        CHECK.same("nor is 255", desk.write(-1L), 9);
    }

    private static void writeUpToTwentyFour() {
        CHECK.sentence("Promise 3: Answers how many it has then");
        ReversalDesk desk = new ReversalDesk();
        for (int k = 1; k <= 24; k++) {
            CHECK.same("character " + k, desk.write((long) ' ' << (8 * (k % 8))), k);
        }
        CHECK.same("nothing behind 24", desk.write(0L), 24);
        CHECK.same("eights: 8", new ReversalDesk().write(-1L), 8);
        ReversalDesk eights = new ReversalDesk();
        eights.write(-1L);
        CHECK.same("eights: 16", eights.write(-1L), 16);
        CHECK.same("eights: 24", eights.write(-1L), 24);
    }

    private static void writeMoreThanTwentyFour() {
        CHECK.sentence("Promise 3: NONE, adding none, when there would be more than 24.");
        for (int had = 17; had <= 24; had++) {
            ReversalDesk desk = new ReversalDesk();
            String text = "4321" + " ".repeat(had - 4);
            CHECK.same("characters", Check.write(desk, text), had);
            CHECK.same("eight more behind " + had, desk.write(0x2020_2020_2020_2020L), NONE);
            CHECK.same("one more than 24", Check.write(desk, "x".repeat(25 - had)), NONE);
            CHECK.same("none is added", desk.write(0L), had);
            CHECK.same("24 in all still fit", Check.write(desk, " ".repeat(24 - had)), had == 24 ? 0 : 24);
            CHECK.same("a twenty-fifth in the highest byte", desk.write(' ' * (1L << 56)), NONE);
            CHECK.same("the text is not spoilt", desk.read(1), NONE);
            CHECK.same("its order", Check.order(desk, 1, 4), "4 3 2 1");
        }
    }

    // Promise 4

    private static void wipeEmptiesTheText() {
        CHECK.sentence("Promise 4: The text is empty then.");
        ReversalDesk desk = new ReversalDesk();
        Check.write(desk, "x".repeat(24));
        desk.wipe();
        CHECK.same("read of it", desk.read(0), 0);
        CHECK.same("there is room for 24 again", Check.write(desk, "2143" + " ".repeat(20)), 24);
        CHECK.same("nothing is left of the text before", desk.read(0), NONE);
        CHECK.same("the order", Check.order(desk, 0, 4), "2 1 4 3");
    }

    private static void wipeAnswersHowMany() {
        CHECK.sentence("Promise 4: Answers how many characters it had.");
        ReversalDesk desk = new ReversalDesk();
        CHECK.same("an empty text", desk.wipe(), 0);
        CHECK.same("an empty text, again", desk.wipe(), 0);
        Check.write(desk, "1");
        CHECK.same("one", desk.wipe(), 1);
        CHECK.same("wiped already", desk.wipe(), 0);
        Check.write(desk, FULL);
        desk.write('7');
        CHECK.same("a full text", desk.wipe(), 24);
        Check.write(desk, "12 34");
        desk.read(0);
        CHECK.same("a text that was read", desk.wipe(), 0);
        Check.write(desk, "12 3x");
        desk.read(0);
        CHECK.same("a text that could not be read", desk.wipe(), 5);
    }

    // Promise 5

    private static void readSigns() {
        CHECK.sentence("Promise 5: genes as digits, each with + or - before it or without");
        reads(1, "1", "1");
        reads(1, "+1", "1");
        reads(1, "-1", "-1");
        reads(6, "654321", "6 5 4 3 2 1");
        reads(6, "-6-5-4-3-2-1", "-6 -5 -4 -3 -2 -1");
        reads(6, "+2-41+6-35", "2 -4 1 6 -3 5");
    }

    private static void readBlanks() {
        CHECK.sentence("Promise 5: and blanks before, between and behind them");
        reads(1, " ".repeat(23) + "1", "1");
        reads(1, "1" + " ".repeat(23), "1");
        reads(1, " ".repeat(11) + "-1" + " ".repeat(11), "-1");
        reads(2, "2" + " ".repeat(22) + "1", "2 1");
        reads(3, " 3 -2 1 ", "3 -2 1");
    }

    private static void readNoBlankBehindASign() {
        CHECK.sentence("Promise 5: (not between a sign and its digit)");
        readsWrong(3, "- 123", 1);
        readsWrong(3, "+ 123", 1);
        readsWrong(3, "12- 3", 3);
        readsWrong(3, "12 -  3", 4);
        readsWrong(1, "- ", 1);
        reads(3, "1 -2 +3", "1 -2 3");
    }

    private static void readDoneEmptiesTheText() {
        CHECK.sentence("Promise 5: NONE, and the text is empty");
        ReversalDesk desk = new ReversalDesk();
        Check.write(desk, "-1 -2 -3 -4");
        CHECK.same("read", desk.read(0), NONE);
        CHECK.same("read again", desk.read(1), 0);
        CHECK.same("the other slot", Check.order(desk, 1, 4), "1 2 3 4");
        CHECK.same("wipe", desk.wipe(), 0);
        Check.write(desk, "4321" + " ".repeat(20));
        desk.read(0);
        CHECK.same("room for 24 again", Check.write(desk, " ".repeat(24)), 24);
    }

    private static void readDoneLeavesNothingToUndo() {
        CHECK.sentence("Promise 5: and nothing of the slot can be undone");
        ReversalDesk desk = new ReversalDesk();
        desk.reverse(0, 0, 2);
        desk.reverse(1, 0, 2);
        Check.write(desk, "1234");
        desk.read(0);
        CHECK.no("undo", desk.undo(0));
        CHECK.same("the slot", Check.order(desk, 0, 4), "1 2 3 4");
        CHECK.yes("undo of another slot", desk.undo(1));
        desk.reverse(0, 0, 0);
        CHECK.yes("undo of a later reversal", desk.undo(0));
        CHECK.no("of no earlier one", desk.undo(0));
    }

    private static void readFirstWrongCharacter() {
        CHECK.sentence("Promise 5: otherwise the place of the first character that cannot stand there");
        readsWrong(4, "x", 0);
        readsWrong(4, "0123", 0);
        readsWrong(4, "5", 0);
        readsWrong(4, "12305", 3);
        readsWrong(4, "11", 1);
        readsWrong(4, "1 2 3 -3", 7);
        readsWrong(4, "+-1", 1);
        readsWrong(4, "--1", 1);
        readsWrong(4, "1234 5", 5);
        readsWrong(4, "1234-", 4);
        readsWrong(4, "1234 +", 5);
        readsWrong(4, "12341", 4);
        readsWrong(4, "x1y", 0);
        readsWrong(4, "123\u00b4", 3);
        readsWrong(4, "1\u00a02", 1);
        readsWrong(4, "1\t2", 1);
        readsWrong(4, "1\n2", 1);
        readsWrong(1, "2", 0);
        readsWrong(1, "-2", 1);
        readsWrong(1, "11", 1);
        readsWrong(6, "123457", 5);
        readsWrong(6, "1234567", 6);
        readsWrong(6, "-0", 1);
        readsWrong(6, "/", 0);
        readsWrong(6, ":", 0);
        readsWrong(4, " ".repeat(23) + "x", 23);
    }

    private static void readEndsTooEarly() {
        CHECK.sentence("Promise 5: (the number of characters if it ends too early)");
        readsWrong(4, "", 0);
        readsWrong(1, "", 0);
        readsWrong(4, " ", 1);
        readsWrong(4, " ".repeat(24), 24);
        readsWrong(4, "123", 3);
        readsWrong(4, "123 ", 4);
        readsWrong(4, "-", 1);
        readsWrong(4, "123-", 4);
        readsWrong(6, "12345", 5);
        readsWrong(2, "1" + " ".repeat(23), 24);
        readsWrong(2, "1" + " ".repeat(22) + "+", 24);
    }

    private static void readWrongChangesNothing() {
        CHECK.sentence("Promise 5: and nothing changes");
        ReversalDesk desk = new ReversalDesk();
        desk.reverse(0, 1, 2);
        desk.scenario(0, 1);
        Check.write(desk, "-4-3-2");
        CHECK.same("read", desk.read(0), 6);
        CHECK.same("read again", desk.read(0), 6);
        CHECK.same("the slot", Check.order(desk, 0, 4), "1 -3 -2 4");
        CHECK.same("the scenario", desk.step(0), 12);
        CHECK.yes("undo", desk.undo(0));
        CHECK.same("the slot undone", Check.order(desk, 0, 4), "1 2 3 4");
        CHECK.same("what was missing is written behind", Check.write(desk, " -1"), 9);
        CHECK.same("read at last", desk.read(0), NONE);
        CHECK.same("the slot at last", Check.order(desk, 0, 4), "-4 -3 -2 -1");
    }

    private static void readFullText() {
        CHECK.sentence("Promise 5: a full text of 24");
        reads(6, FULL, "1 -2 3 -4 5 -6");
        reads(6, " ".repeat(12) + "-6+5-4+3-2+1", "-6 5 -4 3 -2 1");
        readsWrong(6, FULL.substring(0, 23) + "7", 23);
        readsWrong(6, " ".repeat(18) + "12345-", 24);
        readsWrong(6, "\u00ff".repeat(24), 0);
    }

    private static void reads(int genes, String text, String due) {
        ReversalDesk desk = new ReversalDesk();
        desk.genes(genes);
        Check.write(desk, text);
        CHECK.same("read of '" + text + "'", desk.read(0), NONE);
        CHECK.same("the order of '" + text + "'", Check.order(desk, 0, genes), due);
    }

    private static void readsWrong(int genes, String text, int due) {
        ReversalDesk desk = new ReversalDesk();
        desk.genes(genes);
        desk.reverse(0, 0, 0);
        Check.write(desk, text);
        CHECK.same("read of '" + text + "'", desk.read(0), due);
        CHECK.same("the text '" + text + "' stays", desk.write(0L), text.length());
        CHECK.yes("undo after '" + text + "'", desk.undo(0));
    }

    // Promise 6

    private static void genePlaces() {
        CHECK.sentence("Promise 6: The signed gene at a place of a slot.");
        ReversalDesk desk = Check.desk(6, "6 -1 2 3 4 -5");
        CHECK.same("the first place", desk.gene(0, 0), 6);
        CHECK.same("the second one", desk.gene(0, 1), -1);
        CHECK.same("the last one", desk.gene(0, 5), -5);
        CHECK.same("the last slot", desk.gene(4, 5), 6);
    }

    private static void geneOtherPlaces() {
        CHECK.sentence("Promise 6: IndexOutOfBoundsException, too: place is not 0 .. N - 1.");
        ReversalDesk desk = new ReversalDesk();
        for (int n = 1; n <= 6; n++) {
            desk.genes(n);
            for (int place : new int[] {-1, n, n + 1, 6, LEAST, GREATEST}) {
                CHECK.outOfBounds("place " + place + " of " + n, () -> desk.gene(0, place));
            }
        }
    }

    // Promise 7

    private static void copyGetsTheOrder() {
        CHECK.sentence("Promise 7: A slot gets the order of another one");
        ReversalDesk desk = Check.desk(6, "6 -1 2 3 4 -5");
        desk.copy(0, 4);
        CHECK.same("slot 4", Check.order(desk, 4, 6), "6 -1 2 3 4 -5");
        desk.reverse(0, 0, 5);
        CHECK.same("it stays when the other one changes", Check.order(desk, 4, 6), "6 -1 2 3 4 -5");
        desk.copy(4, 0);
        CHECK.same("and back", Check.order(desk, 0, 6), "6 -1 2 3 4 -5");
        CHECK.same("no other slot", Check.order(desk, 1, 6), "1 2 3 4 5 6");
    }

    private static void copyNothingUndone() {
        CHECK.sentence("Promise 7: nothing of it can be undone");
        ReversalDesk desk = new ReversalDesk();
        desk.reverse(0, 0, 1);
        desk.reverse(1, 2, 3);
        desk.copy(0, 1);
        CHECK.no("undo of the copy", desk.undo(1));
        CHECK.same("the copy", Check.order(desk, 1, 4), "-2 -1 3 4");
        CHECK.yes("undo of the copied slot", desk.undo(0));
        CHECK.same("the copied slot", Check.order(desk, 0, 4), "1 2 3 4");
    }

    private static void copyOntoItself() {
        CHECK.sentence("Promise 7: a slot copied onto itself");
        for (int slot = 0; slot < 5; slot++) {
            ReversalDesk desk = new ReversalDesk();
            desk.reverse(slot, 0, 2);
            desk.reverse(slot, 1, 3);
            desk.copy(slot, slot);
            CHECK.same("its order", Check.order(desk, slot, 4), "-3 -4 1 2");
            CHECK.no("nothing of it can be undone", desk.undo(slot));
        }
    }

    // Promise 8

    private static void reverseBelowZero() {
        CHECK.sentence("Promise 8: IndexOutOfBoundsException, too: i is below 0");
        refusesPlaces(new int[][] {{-1, 0}, {-1, -1}, {-1, 3}, {LEAST, 0}, {-2, -1}});
    }

    private static void reverseAboveTheLast() {
        CHECK.sentence("Promise 8: IndexOutOfBoundsException, too: j above N - 1");
        refusesPlaces(new int[][] {{0, 4}, {3, 4}, {4, 4}, {0, GREATEST}, {GREATEST, GREATEST}});
        for (int n = 1; n <= 6; n++) {
            int genes = n;
            ReversalDesk desk = new ReversalDesk();
            desk.genes(n);
            CHECK.outOfBounds("j = " + n + " of " + n, () -> desk.reverse(0, 0, genes));
            CHECK.outOfBounds("i = j = " + n + " of " + n, () -> desk.reverse(0, genes, genes));
        }
    }

    private static void reverseWrongWayRound() {
        CHECK.sentence("Promise 8: IndexOutOfBoundsException, too: i above j");
        refusesPlaces(new int[][] {{1, 0}, {3, 2}, {3, 0}, {0, -1}, {GREATEST, 0}, {0, LEAST}});
    }

    private static void refusesPlaces(int[][] wrong) {
        ReversalDesk desk = Check.desk(4, "2 -1 4 3");
        for (int[] places : wrong) {
            CHECK.outOfBounds("reverse " + places[0] + " .. " + places[1], () -> desk.reverse(0, places[0], places[1]));
        }
        CHECK.same("the order", Check.order(desk, 0, 4), "2 -1 4 3");
        CHECK.no("undo", desk.undo(0));
    }

    // Promise 9

    private static void undoLatestNotUndone() {
        CHECK.sentence("Promise 9: The latest reversal of a slot that was not undone is undone");
        ReversalDesk desk = new ReversalDesk();
        desk.reverse(0, 0, 1);
        desk.reverse(0, 2, 3);
        desk.reverse(0, 1, 2);
        CHECK.yes("the third", desk.undo(0));
        CHECK.same("without the third", Check.order(desk, 0, 4), "-2 -1 -4 -3");
        desk.reverse(0, 0, 0);
        CHECK.yes("the fourth", desk.undo(0));
        CHECK.same("without the fourth", Check.order(desk, 0, 4), "-2 -1 -4 -3");
        CHECK.yes("the second", desk.undo(0));
        CHECK.same("without the second", Check.order(desk, 0, 4), "-2 -1 3 4");
        CHECK.yes("the first", desk.undo(0));
        CHECK.same("without any", Check.order(desk, 0, 4), "1 2 3 4");
    }

    private static void undoNoneLeft() {
        CHECK.sentence("Promise 9: false when there is none");
        ReversalDesk desk = new ReversalDesk();
        CHECK.no("undo of none", desk.undo(0));
        desk.reverse(0, 0, 3);
        CHECK.no("undo of another slot's", desk.undo(1));
        CHECK.yes("undo of one", desk.undo(0));
        CHECK.no("an undo is not undone", desk.undo(0));
        CHECK.same("the order", Check.order(desk, 0, 4), "1 2 3 4");
        desk.reverse(0, 3, 3);
        CHECK.yes("undo of one after a false", desk.undo(0));
        CHECK.same("the order, again", Check.order(desk, 0, 4), "1 2 3 4");
    }

    private static void undoLatestEight() {
        CHECK.sentence("Promise 9: The latest eight can be.");
        for (int made = 7; made <= 26; made++) {
            ReversalDesk desk = new ReversalDesk();
            String[] orders = new String[made + 1];
            for (int k = 0; k < made; k++) {
                orders[k] = Check.order(desk, 2, 4);
                // Other slots' reversals do not count among this one's eight.
                desk.reverse(1, 0, k % 4);
                desk.reverse(2, k % 3, 2 + k % 2);
            }
            int kept = made < 8 ? made : 8;
            for (int k = 1; k <= kept; k++) {
                CHECK.yes("undo " + k + " of " + made, desk.undo(2));
                CHECK.same("the order", Check.order(desk, 2, 4), orders[made - k]);
            }
            CHECK.no("undo of one more of " + made, desk.undo(2));
            CHECK.same("the order stays", Check.order(desk, 2, 4), orders[made - kept]);
            refillsEight(desk, orders[made - kept]);
        }
    }

    private static void refillsEight(ReversalDesk desk, String start) {
        for (int k = 0; k < 8; k++) {
            desk.reverse(2, 0, k % 4);
        }
        for (int k = 0; k < 8; k++) {
            CHECK.yes("undo " + k + " of eight new ones", desk.undo(2));
        }
        CHECK.no("undo of a ninth", desk.undo(2));
        CHECK.same("where the new ones started", Check.order(desk, 2, 4), start);
    }
}
