/** Promises 1 to 9: what a desk holds, and the calls that change or tell it. */
public final class StateTest {
    private static final Check CHECK = new Check("StateTest");
    private static final int[] WRONG_SLOTS = {-1, 5, Integer.MIN_VALUE, Integer.MAX_VALUE};

    public static void main(String[] args) {
        newObject();
        genesGivesPlainOrders();
        genesRefusesOtherNumbers();
        writeAddsBytes();
        writeKeepsToItsRoom();
        wipeEmptiesTheText();
        readTakesOrders();
        readTellsTheFirstWrongCharacter();
        readLeavesAllAloneWhenWrong();
        geneTellsPlaces();
        copyGivesTheOrder();
        reverseTurnsAndChangesSigns();
        reverseRefusesOtherPlaces();
        undoTakesBack();
        undoReachesEightBack();
        undoIsEmptiedByNewOrders();
        wrongSlotsComeFirst();
        CHECK.end();
    }

    private static void newObject() {
        ReversalDesk desk = new ReversalDesk();
        for (int slot = 0; slot < 5; slot++) {
            CHECK.same("a new slot", Check.order(desk, slot, 4), "1 2 3 4");
            CHECK.same("undo on a new slot", desk.undo(slot) ? 1 : 0, 0);
        }
        CHECK.outOfBounds("a new desk has four genes", () -> desk.gene(0, 4));
        CHECK.illegalState("a new desk has no scenario", () -> desk.step(0));
        CHECK.same("wipe of a new text", desk.wipe(), 0);
    }

    private static void genesGivesPlainOrders() {
        String[] plain = {"1", "1 2", "1 2 3", "1 2 3 4", "1 2 3 4 5", "1 2 3 4 5 6"};
        ReversalDesk desk = new ReversalDesk();
        Check.write(desk, "+1 2");
        for (int n = 6; n >= 1; n--) {
            int most = n;
            for (int slot = 0; slot < 5; slot++) {
                desk.reverse(slot, 0, 0);
            }
            desk.scenario(0, 1);
            desk.genes(n);
            for (int slot = 0; slot < 5; slot++) {
                CHECK.same("genes(" + n + ")", Check.order(desk, slot, n), plain[n - 1]);
                CHECK.same("undo after genes", desk.undo(slot) ? 1 : 0, 0);
            }
            CHECK.outOfBounds("the place behind the last", () -> desk.gene(0, most));
            CHECK.illegalState("genes ends the scenario", () -> desk.step(0));
        }
        desk.genes(6);
        CHECK.same("genes upwards", Check.order(desk, 3, 6), "1 2 3 4 5 6");
        CHECK.same("the text stays", desk.wipe(), 4);
    }

    private static void genesRefusesOtherNumbers() {
        ReversalDesk desk = Check.desk(3, "-3 1 2", "1 2 3");
        desk.reverse(1, 0, 1);
        desk.scenario(0, 1);
        int first = desk.step(0);
        for (int n : new int[] {0, 7, -1, Integer.MIN_VALUE, Integer.MAX_VALUE}) {
            CHECK.illegalArgument("genes(" + n + ")", () -> desk.genes(n));
        }
        CHECK.same("a refused genes", Check.order(desk, 0, 3), "-3 1 2");
        CHECK.same("a refused genes keeps the scenario", desk.step(0), first);
        CHECK.same("a refused genes keeps what can be undone", desk.undo(1) ? 1 : 0, 1);
    }

    private static void writeAddsBytes() {
        ReversalDesk desk = new ReversalDesk();
        CHECK.same("write of nothing", desk.write(0L), 0);
        CHECK.same("the lowest byte first", desk.write(0x3433L), 2);
        CHECK.same("bytes 0 are left out between, too", desk.write(0x3100_0000_0000_3200L), 4);
        CHECK.same("read", desk.read(0), ReversalDesk.NONE);
        CHECK.same("the text in its order", Check.order(desk, 0, 4), "3 4 2 1");
        CHECK.same("all eight bytes, signs of them too", desk.write(-1L), 8);
        CHECK.same("a byte above 127 alone", desk.write(0x80L), 9);
    }

    private static void writeKeepsToItsRoom() {
        ReversalDesk desk = new ReversalDesk();
        CHECK.same("20 characters", Check.write(desk, "1234                "), 20);
        CHECK.same("25 are too many", desk.write(0x20_2020_2020L), ReversalDesk.NONE);
        CHECK.same("none of them was added", desk.write(0L), 20);
        CHECK.same("24 are not", desk.write(0x2020_2020L), 24);
        CHECK.same("nothing behind 24", desk.write(0L), 24);
        CHECK.same("one behind 24", desk.write(1L << 56), ReversalDesk.NONE);
        CHECK.same("a full text is read", desk.read(0), ReversalDesk.NONE);
        CHECK.same("and is empty then", desk.wipe(), 0);
    }

    private static void wipeEmptiesTheText() {
        ReversalDesk desk = new ReversalDesk();
        Check.write(desk, "1 2 x");
        CHECK.same("wipe", desk.wipe(), 5);
        CHECK.same("wipe again", desk.wipe(), 0);
        CHECK.same("a text from its start", Check.write(desk, "4321"), 4);
        CHECK.same("read", desk.read(2), ReversalDesk.NONE);
        CHECK.same("nothing of the text before", Check.order(desk, 2, 4), "4 3 2 1");
    }

    private static void readTakesOrders() {
        reads(4, "1234", "1 2 3 4");
        reads(4, "+4-3+2-1", "4 -3 2 -1");
        reads(4, "  -2   1 +4  -3 ", "-2 1 4 -3");
        reads(1, "-1", "-1");
        reads(1, "   1   ", "1");
        reads(6, "+6 +5 -4 -3 +2 -1", "6 5 -4 -3 2 -1");
        reads(6, "653142", "6 5 3 1 4 2");
    }

    private static void reads(int genes, String text, String due) {
        ReversalDesk desk = new ReversalDesk();
        desk.genes(genes);
        desk.reverse(1, 0, 0);
        Check.write(desk, text);
        CHECK.same("read of '" + text + "'", desk.read(1), ReversalDesk.NONE);
        CHECK.same("the order of '" + text + "'", Check.order(desk, 1, genes), due);
        CHECK.same("nothing to undo after read", desk.undo(1) ? 1 : 0, 0);
        CHECK.same("the text after read", desk.wipe(), 0);
    }

    private static void readTellsTheFirstWrongCharacter() {
        readsWrong(3, "", 0);
        readsWrong(3, "   ", 3);
        readsWrong(3, "12", 2);
        readsWrong(3, "12 ", 3);
        readsWrong(3, "1 2 -", 5);
        readsWrong(3, "0", 0);
        readsWrong(3, "124", 2);
        readsWrong(3, "1 2 1", 4);
        readsWrong(3, "-1 +1 2", 4);
        readsWrong(3, "- 123", 1);
        readsWrong(3, "1 +-2 3", 3);
        readsWrong(3, "1 ++2 3", 3);
        readsWrong(3, "1 2 3 +", 6);
        readsWrong(3, "1231", 3);
        readsWrong(3, "123 4", 4);
        readsWrong(3, "1,2,3", 1);
        readsWrong(3, "12\t3", 2);
        readsWrong(3, "12:3", 2);
        readsWrong(3, "12\u00b13", 2);
        readsWrong(1, "+2", 1);
        readsWrong(6, "1234567", 6);
        readsWrong(6, "7", 0);
        readsWrong(6, "12345", 5);
    }

    private static void readsWrong(int genes, String text, int due) {
        ReversalDesk desk = new ReversalDesk();
        desk.genes(genes);
        Check.write(desk, text);
        CHECK.same("read of '" + text + "'", desk.read(0), due);
        CHECK.same("the text stays", desk.wipe(), text.length());
    }

    private static void readLeavesAllAloneWhenWrong() {
        ReversalDesk desk = Check.desk(3, "2 -1 3");
        desk.reverse(0, 0, 1);
        desk.scenario(0, 1);
        Check.write(desk, "-3 -2 1 1");
        CHECK.same("a gene too many", desk.read(0), 8);
        CHECK.same("the slot", Check.order(desk, 0, 3), "1 -2 3");
        CHECK.same("its reversal can be undone", desk.undo(0) ? 1 : 0, 1);
        CHECK.same("the slot before it", Check.order(desk, 0, 3), "2 -1 3");
        CHECK.same("the same text is wrong again", desk.read(1), 8);
        CHECK.same("the other slot", Check.order(desk, 1, 3), "1 2 3");
    }

    private static void geneTellsPlaces() {
        ReversalDesk desk = Check.desk(6, "-4 6 -1 2 5 -3");
        int[] due = {-4, 6, -1, 2, 5, -3};
        for (int place = 0; place < 6; place++) {
            CHECK.same("gene at " + place, desk.gene(0, place), due[place]);
        }
        for (int place : new int[] {-1, 6, Integer.MIN_VALUE, Integer.MAX_VALUE}) {
            CHECK.outOfBounds("gene at " + place, () -> desk.gene(0, place));
        }
        desk.genes(1);
        CHECK.same("the only gene", desk.gene(4, 0), 1);
        CHECK.outOfBounds("a place beside the only one", () -> desk.gene(4, 1));
    }

    private static void copyGivesTheOrder() {
        ReversalDesk desk = Check.desk(4, "-2 4 1 -3");
        desk.reverse(0, 0, 3);
        desk.reverse(1, 1, 1);
        desk.copy(0, 1);
        CHECK.same("the copy", Check.order(desk, 1, 4), "3 -1 -4 2");
        CHECK.same("nothing of it can be undone", desk.undo(1) ? 1 : 0, 0);
        desk.reverse(1, 0, 1);
        CHECK.same("the copied slot stays as it was", Check.order(desk, 0, 4), "3 -1 -4 2");
        CHECK.same("and can be undone", desk.undo(0) ? 1 : 0, 1);
        CHECK.same("the copied slot", Check.order(desk, 0, 4), "-2 4 1 -3");
        CHECK.same("the copy, reversed", Check.order(desk, 1, 4), "1 -3 -4 2");
        desk.copy(1, 1);
        CHECK.same("a slot on itself", Check.order(desk, 1, 4), "1 -3 -4 2");
        CHECK.same("cannot be undone either", desk.undo(1) ? 1 : 0, 0);
    }

    private static void reverseTurnsAndChangesSigns() {
        ReversalDesk desk = Check.desk(6, "1 -2 3 4 -5 6");
        desk.reverse(0, 1, 4);
        CHECK.same("four places", Check.order(desk, 0, 6), "1 5 -4 -3 2 6");
        desk.reverse(0, 0, 2);
        CHECK.same("three places", Check.order(desk, 0, 6), "4 -5 -1 -3 2 6");
        desk.reverse(0, 5, 5);
        CHECK.same("the last place", Check.order(desk, 0, 6), "4 -5 -1 -3 2 -6");
        desk.reverse(0, 0, 0);
        CHECK.same("the first place", Check.order(desk, 0, 6), "-4 -5 -1 -3 2 -6");
        desk.reverse(0, 0, 5);
        CHECK.same("all places", Check.order(desk, 0, 6), "6 -2 3 1 5 4");
        CHECK.same("another slot", Check.order(desk, 1, 6), "1 2 3 4 5 6");
    }

    private static void reverseRefusesOtherPlaces() {
        ReversalDesk desk = Check.desk(4, "2 1 4 3");
        int[][] wrong = {{-1, 2}, {0, 4}, {2, 1}, {4, 4}, {3, 0}, {Integer.MIN_VALUE, Integer.MAX_VALUE}, {-1, -1}};
        for (int[] places : wrong) {
            CHECK.outOfBounds("reverse " + places[0] + " .. " + places[1], () -> desk.reverse(0, places[0], places[1]));
        }
        CHECK.same("a refused reversal", Check.order(desk, 0, 4), "2 1 4 3");
        CHECK.same("is none to undo", desk.undo(0) ? 1 : 0, 0);
        desk.genes(2);
        CHECK.outOfBounds("places follow the number of genes", () -> desk.reverse(0, 0, 2));
    }

    private static void undoTakesBack() {
        ReversalDesk desk = Check.desk(4, "1 2 3 4");
        desk.reverse(0, 0, 2);
        desk.reverse(0, 1, 3);
        desk.reverse(1, 2, 2);
        CHECK.same("undo", desk.undo(0) ? 1 : 0, 1);
        CHECK.same("the later one first", Check.order(desk, 0, 4), "-3 -2 -1 4");
        desk.reverse(0, 3, 3);
        CHECK.same("undo of a new one", desk.undo(0) ? 1 : 0, 1);
        CHECK.same("after it", Check.order(desk, 0, 4), "-3 -2 -1 4");
        CHECK.same("undo of the first one", desk.undo(0) ? 1 : 0, 1);
        CHECK.same("all undone", Check.order(desk, 0, 4), "1 2 3 4");
        CHECK.same("none is left", desk.undo(0) ? 1 : 0, 0);
        CHECK.same("false changes nothing", Check.order(desk, 0, 4), "1 2 3 4");
        CHECK.same("slots have their own", desk.undo(1) ? 1 : 0, 1);
        CHECK.same("the other slot", Check.order(desk, 1, 4), "1 2 3 4");
    }

    private static void undoReachesEightBack() {
        ReversalDesk desk = Check.desk(6, "1 2 3 4 5 6");
        for (int k = 0; k < 8; k++) {
            desk.reverse(0, k % 6, 5);
        }
        for (int k = 0; k < 8; k++) {
            CHECK.same("undo " + k + " of eight", desk.undo(0) ? 1 : 0, 1);
        }
        CHECK.same("all eight undone", Check.order(desk, 0, 6), "1 2 3 4 5 6");

        desk.reverse(0, 0, 1);
        desk.reverse(0, 2, 4);
        for (int k = 0; k < 8; k++) {
            desk.reverse(0, k % 3, 3 + k % 2);
        }
        CHECK.same("undo of the tenth", desk.undo(0) ? 1 : 0, 1);
        desk.reverse(0, 5, 5);
        for (int k = 0; k < 8; k++) {
            CHECK.same("undo " + k + " behind ten", desk.undo(0) ? 1 : 0, 1);
        }
        CHECK.same("no ninth", desk.undo(0) ? 1 : 0, 0);
        CHECK.same("the first two stay", Check.order(desk, 0, 6), "-2 -1 -5 -4 -3 6");
    }

    private static void undoIsEmptiedByNewOrders() {
        ReversalDesk desk = Check.desk(3, "1 2 3");
        desk.reverse(0, 0, 1);
        Check.lay(desk, 0, "3 2 1");
        CHECK.same("undo after read", desk.undo(0) ? 1 : 0, 0);
        desk.reverse(4, 0, 1);
        desk.median(1, 2, 3);
        CHECK.same("undo after median", desk.undo(4) ? 1 : 0, 0);
        desk.reverse(3, 0, 1);
        desk.copy(0, 3);
        CHECK.same("undo after copy", desk.undo(3) ? 1 : 0, 0);
    }

    private static void wrongSlotsComeFirst() {
        ReversalDesk desk = Check.desk(6, "2 1 3 4 5 6");
        Check.write(desk, "654321");
        for (int slot : WRONG_SLOTS) {
            CHECK.outOfBounds("read", () -> desk.read(slot));
            CHECK.outOfBounds("gene", () -> desk.gene(slot, 0));
            CHECK.outOfBounds("copy from", () -> desk.copy(slot, 0));
            CHECK.outOfBounds("copy to", () -> desk.copy(0, slot));
            CHECK.outOfBounds("reverse", () -> desk.reverse(slot, 0, 0));
            CHECK.outOfBounds("undo", () -> desk.undo(slot));
            CHECK.outOfBounds("distance of", () -> desk.distance(slot, 0));
            CHECK.outOfBounds("distance to", () -> desk.distance(0, slot));
            CHECK.outOfBounds("drawing of", () -> desk.drawing(slot, 0, 6));
            CHECK.outOfBounds("drawing over", () -> desk.drawing(0, slot, -1));
            CHECK.outOfBounds("line of", () -> desk.line(slot, 0, 7));
            CHECK.outOfBounds("line over", () -> desk.line(0, slot, -1));
            CHECK.outOfBounds("interval of", () -> desk.interval(slot, 0, 0));
            CHECK.outOfBounds("interval over", () -> desk.interval(0, slot, -1));
            CHECK.outOfBounds("scenario from", () -> desk.scenario(slot, 0));
            CHECK.outOfBounds("scenario to", () -> desk.scenario(0, slot));
            CHECK.outOfBounds("ways from", () -> desk.ways(slot, 0));
            CHECK.outOfBounds("ways to", () -> desk.ways(0, slot));
            CHECK.outOfBounds("circle", () -> desk.circle(slot, 0));
            CHECK.outOfBounds("median of the first", () -> desk.median(slot, 0, 0));
            CHECK.outOfBounds("median of the second", () -> desk.median(0, slot, 0));
            CHECK.outOfBounds("median of the third", () -> desk.median(0, 0, slot));
        }
        CHECK.same("the slot after all that", Check.order(desk, 0, 6), "2 1 3 4 5 6");
        CHECK.illegalState("no scenario after all that", () -> desk.step(0));
        CHECK.same("the text after all that", desk.wipe(), 6);
    }
}
