import java.util.ArrayList;
import java.util.List;

/** "Terms": what is thrown when several would do, that wrong slots come first, and that refused calls change nothing. */
public final class RefusalTest {
    private static final Check CHECK = new Check("RefusalTest");
    private static final int[] WRONG_SLOTS = {-1, 5, Integer.MIN_VALUE, Integer.MAX_VALUE};

    public static void main(String[] args) {
        slotsTestedFirst();
        everySlotIsAllowed();
        firstNamedIsThrown();
        thrownCallsChangeNothing();
        falseChangesNothing();
        answersAloneChangeNothing();
        CHECK.end();
    }

    private interface Call {
        void on(ReversalDesk desk);
    }

    private static final class Refused {
        final String name;
        final String due;
        final Call call;

        Refused(String name, String due, Call call) {
            this.name = name;
            this.due = due;
            this.call = call;
        }
    }

    private static String thrown(Call call, ReversalDesk desk) {
        return Check.thrownBy(() -> call.on(desk));
    }

    /** Every call that takes slots, with one of them wrong, and its other arguments wrong, too. */
    private static List<Refused> wrongSlotCalls() {
        List<Refused> calls = new ArrayList<>();
        for (int s : WRONG_SLOTS) {
            addOutOfBounds(calls, "read", desk -> desk.read(s));
            addOutOfBounds(calls, "gene", desk -> desk.gene(s, 0));
            addOutOfBounds(calls, "gene of a wrong place", desk -> desk.gene(s, 6));
            addOutOfBounds(calls, "copy from", desk -> desk.copy(s, 0));
            addOutOfBounds(calls, "copy to", desk -> desk.copy(0, s));
            addOutOfBounds(calls, "copy of both", desk -> desk.copy(s, s));
            addOutOfBounds(calls, "reverse", desk -> desk.reverse(s, 0, 0));
            addOutOfBounds(calls, "reverse of wrong places", desk -> desk.reverse(s, 2, 1));
            addOutOfBounds(calls, "undo", desk -> desk.undo(s));
            addOutOfBounds(calls, "circle", desk -> desk.circle(s, 0));
            addOutOfBounds(calls, "circle of a wrong distance", desk -> desk.circle(s, -1));
            addPairs(calls, s, 0);
            addPairs(calls, 4, s);
            addPairs(calls, s, s);
            addOutOfBounds(calls, "median of the first", desk -> desk.median(s, 0, 4));
            addOutOfBounds(calls, "median of the second", desk -> desk.median(0, s, 4));
            addOutOfBounds(calls, "median of the third", desk -> desk.median(0, 4, s));
        }
        return calls;
    }

    private static void addPairs(List<Refused> calls, int a, int b) {
        addOutOfBounds(calls, "distance", desk -> desk.distance(a, b));
        addOutOfBounds(calls, "drawing", desk -> desk.drawing(a, b, 0));
        addOutOfBounds(calls, "drawing of another what", desk -> desk.drawing(a, b, 6));
        addOutOfBounds(calls, "line", desk -> desk.line(a, b, 0));
        addOutOfBounds(calls, "line of a wrong number", desk -> desk.line(a, b, -1));
        addOutOfBounds(calls, "interval", desk -> desk.interval(a, b, 0));
        addOutOfBounds(calls, "interval of a wrong number", desk -> desk.interval(a, b, 99));
        addOutOfBounds(calls, "scenario", desk -> desk.scenario(a, b));
        addOutOfBounds(calls, "ways", desk -> desk.ways(a, b));
    }

    private static void addOutOfBounds(List<Refused> calls, String name, Call call) {
        calls.add(new Refused(name + " with a wrong slot", "IndexOutOfBoundsException", call));
    }

    private static List<Refused> otherWrongCalls(int genes) {
        List<Refused> calls = new ArrayList<>();
        String argument = "IllegalArgumentException";
        String bounds = "IndexOutOfBoundsException";
        calls.add(new Refused("genes(0)", argument, desk -> desk.genes(0)));
        calls.add(new Refused("genes(7)", argument, desk -> desk.genes(7)));
        calls.add(new Refused("gene below 0", bounds, desk -> desk.gene(0, -1)));
        calls.add(new Refused("gene behind the last", bounds, desk -> desk.gene(0, genes)));
        calls.add(new Refused("reverse below 0", bounds, desk -> desk.reverse(0, -1, 0)));
        calls.add(new Refused("reverse behind the last", bounds, desk -> desk.reverse(0, 0, genes)));
        calls.add(new Refused("reverse the wrong way", bounds, desk -> desk.reverse(0, 0, -1)));
        calls.add(new Refused("drawing below 0", argument, desk -> desk.drawing(0, 1, -1)));
        calls.add(new Refused("drawing above 5", argument, desk -> desk.drawing(0, 1, 6)));
        calls.add(new Refused("line below 0", argument, desk -> desk.line(0, 1, -1)));
        calls.add(new Refused("line behind the last", argument, desk -> desk.line(0, 1, genes + 1)));
        if (genes > 4) {
            String unsupported = "UnsupportedOperationException";
            calls.add(new Refused("ways", unsupported, desk -> desk.ways(0, 1)));
            calls.add(new Refused("circle", unsupported, desk -> desk.circle(0, 1)));
            calls.add(new Refused("median", unsupported, desk -> desk.median(0, 1, 2)));
        }
        return calls;
    }

    private static void slotsTestedFirst() {
        CHECK.sentence("Terms: Slots that are not 0 .. 4: IndexOutOfBoundsException, everywhere, tested first.");
        for (int genes = 1; genes <= 6; genes++) {
            ReversalDesk desk = Check.desk(genes);
            for (Refused refused : wrongSlotCalls()) {
                CHECK.same(refused.name + ", " + genes + " genes", thrown(refused.call, desk), refused.due);
            }
        }
    }

    private static void everySlotIsAllowed() {
        CHECK.sentence("Terms: Slots that are not 0 .. 4 (those that are)");
        ReversalDesk desk = Check.desk(3);
        for (int slot = 0; slot < 5; slot++) {
            int s = slot;
            CHECK.same("all calls with slot " + slot, Check.thrownBy(() -> {
                desk.reverse(s, 0, 2);
                desk.undo(s);
                desk.copy(s, 4 - s);
                desk.gene(s, 2);
                desk.distance(s, 4 - s);
                desk.drawing(s, 4 - s, 5);
                desk.line(s, 4 - s, 3);
                desk.interval(s, 4 - s, 0);
                desk.scenario(s, 4 - s);
                desk.ways(s, 4 - s);
                desk.circle(s, 1);
                desk.median(s, 4 - s, s);
                desk.read(s);
            }), "nothing");
        }
    }

    private static void firstNamedIsThrown() {
        CHECK.sentence("Terms: Methods throw what their comments name, the one named first when several would do");
        ReversalDesk desk = Check.desk(6);
        CHECK.outOfBounds("drawing: a slot, then what", () -> desk.drawing(0, 5, 6));
        CHECK.outOfBounds("line: a slot, then k", () -> desk.line(-1, 0, 7));
        CHECK.outOfBounds("ways: a slot, then six genes", () -> desk.ways(0, 5));
        CHECK.outOfBounds("circle: a slot, then six genes", () -> desk.circle(5, -1));
        CHECK.outOfBounds("median: the third slot, then six genes", () -> desk.median(0, 0, 5));
        CHECK.illegalState("step: no scenario, then no such reversal", () -> desk.step(-1));
    }

    private static void thrownCallsChangeNothing() {
        CHECK.sentence("Terms: a call that throws changes nothing");
        for (int genes = 1; genes <= 6; genes++) {
            List<Refused> calls = wrongSlotCalls();
            calls.addAll(otherWrongCalls(genes));
            for (Refused refused : calls) {
                ReversalDesk desk = used(genes);
                CHECK.same(refused.name, thrown(refused.call, desk), refused.due);
                CHECK.same("all that is left by " + refused.name, told(desk, genes), told(used(genes), genes));
            }
            stepsChangeNothing(genes);
        }
    }

    private static void stepsChangeNothing(int genes) {
        ReversalDesk desk = used(genes);
        CHECK.illegalArgument("step below 0", () -> desk.step(-1));
        CHECK.illegalArgument("step behind the last", () -> desk.step(9));
        CHECK.same("all that is left by steps", told(desk, genes), told(used(genes), genes));
        ReversalDesk fresh = new ReversalDesk();
        CHECK.illegalState("step without a scenario", () -> fresh.step(0));
        CHECK.same("all that is left of a new object", told(fresh, 4), told(new ReversalDesk(), 4));
    }

    private static void falseChangesNothing() {
        CHECK.sentence("Terms: or answers false, changes nothing");
        for (int genes = 1; genes <= 6; genes++) {
            ReversalDesk desk = used(genes);
            CHECK.no("undo of slot 3", desk.undo(3));
            CHECK.no("undo of slot 3 again", desk.undo(3));
            CHECK.same("all that is left by undo", told(desk, genes), told(used(genes), genes));
        }
    }

    /** What the document says no more of than an answer, and the texts that are refused by one. */
    private static void answersAloneChangeNothing() {
        CHECK.sentence("Not promised: Nothing is promised beyond the answers and state changes described above");
        for (int genes = 1; genes <= 6; genes++) {
            ReversalDesk desk = used(genes);
            desk.gene(1, 0);
            desk.distance(0, 1);
            desk.drawing(1, 0, 3);
            desk.line(0, 2, 0);
            desk.interval(0, 1, 0);
            desk.step(0);
            if (genes <= 4) {
                desk.ways(0, 1);
                desk.circle(0, 2);
            }
            CHECK.same("a text too long", desk.write(-1L), ReversalDesk.NONE);
            CHECK.same("all that is left", told(desk, genes), told(used(genes), genes));
        }
    }

    /** A desk with different orders, reversals to undo, a scenario and a text of 20 characters. */
    private static ReversalDesk used(int genes) {
        ReversalDesk desk = Check.desk(genes);
        desk.reverse(2, 0, 0);
        desk.copy(2, 3);
        for (int k = 0; k < 9; k++) {
            desk.reverse(0, 0, k % genes);
        }
        desk.reverse(1, 0, genes - 1);
        desk.reverse(4, 0, genes / 2);
        desk.reverse(0, genes - 1, genes - 1);
        if (desk.scenario(0, 2) == 0) {
            throw new IllegalStateException("the test's own scenario has no step");
        }
        StringBuilder text = new StringBuilder();
        for (int gene = genes; gene >= 1; gene--) {
            text.append(gene % 2 == 0 ? " -" : "  ").append(gene);
        }
        Check.write(desk, text + " ".repeat(20 - text.length()));
        return desk;
    }

    /** All that calls can tell of a desk; it is used up by that, within its 512 calls. */
    private static String told(ReversalDesk desk, int genes) {
        StringBuilder told = new StringBuilder();
        told.append(Check.thrownBy(() -> desk.gene(0, genes))).append(orders(desk, genes));
        for (int k = 0; k < 8; k++) {
            int at = k;
            String thrown = Check.thrownBy(() -> desk.step(at));
            told.append(' ').append(thrown.equals("nothing") ? "" + desk.step(k) : thrown);
        }
        for (int slot = 0; slot < 5; slot++) {
            int undone = 0;
            while (undone < 10 && desk.undo(slot)) {
                undone++;
                told.append(" undone to [").append(Check.order(desk, slot, genes)).append(']');
            }
            told.append(' ').append(undone);
        }
        told.append(" text ").append(desk.write(0L)).append(' ').append(desk.read(0)).append(orders(desk, genes));
        return told.append(desk.wipe()).toString();
    }

    private static String orders(ReversalDesk desk, int genes) {
        StringBuilder orders = new StringBuilder();
        for (int slot = 0; slot < 5; slot++) {
            orders.append(" [").append(Check.order(desk, slot, genes)).append(']');
        }
        return orders.toString();
    }
}
