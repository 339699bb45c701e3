/** Promises 10 to 13: distances, drawings, gray lines and common intervals, worked out by hand. */
public final class DrawingTest {
    private static final Check CHECK = new Check("DrawingTest");

    public static void main(String[] args) {
        distances();
        distanceChangesNothing();
        drawings();
        drawingRefusesOtherQuestions();
        lines();
        lineRefusesOtherLines();
        intervals();
        CHECK.end();
    }

    private static void distances() {
        far(1, "1", "1", 0);
        far(1, "-1", "1", 1);
        far(2, "2 1", "1 2", 3);
        far(2, "-2 -1", "1 2", 1);
        far(2, "2 -1", "1 2", 2);
        // 0..1, 1..2, 0..1: to turn all of it and then each gene would be four.
        far(3, "3 2 1", "1 2 3", 3);
        far(3, "-3 -2 -1", "1 2 3", 1);
        far(4, "-1 -2 -3 -4", "1 2 3 4", 4);
        far(4, "3 -1 2 -4", "3 -1 2 -4", 0);
        far(4, "4 3 2 1", "1 2 3 4", 5);
        far(6, "-6 -5 -4 -3 -2 -1", "1 2 3 4 5 6", 1);
        // Two hurdles side by side, and one inside the other.
        far(5, "2 1 3 5 4", "1 2 3 4 5", 6);
        far(5, "2 4 3 5 1", "1 2 3 4 5", 6);
        far(5, "5 1 3 2 4", "1 2 3 4 5", 6);
    }

    private static void far(int genes, String first, String second, int due) {
        ReversalDesk desk = Check.desk(genes, first, second);
        CHECK.same("distance " + first + " to " + second, desk.distance(0, 1), due);
        CHECK.same("distance back", desk.distance(1, 0), due);
        CHECK.same("distance to itself", desk.distance(0, 0), 0);
    }

    private static void distanceChangesNothing() {
        ReversalDesk desk = Check.desk(4, "3 -1 2 -4", "1 2 3 4");
        desk.reverse(0, 0, 3);
        desk.distance(0, 1);
        desk.scenario(0, 1);
        desk.ways(0, 1);
        CHECK.same("the first order", Check.order(desk, 0, 4), "4 -2 1 -3");
        CHECK.same("the second order", Check.order(desk, 1, 4), "1 2 3 4");
        CHECK.same("its reversal can be undone", desk.undo(0) ? 1 : 0, 1);
        CHECK.same("the order before it", Check.order(desk, 0, 4), "3 -1 2 -4");
    }

    /** Cycles, parts, bad parts, hurdles, oriented gray lines, breakpoints. */
    private static void drawings() {
        drawn(4, "1 2 3 4", "1 2 3 4", 5, 5, 0, 0, 0, 0);
        drawn(4, "-2 4 1 -3", "-2 4 1 -3", 5, 5, 0, 0, 0, 0);
        // Ends 0 2 1 3: lines 0-2 and 1-3, which cross.
        drawn(1, "-1", "1", 1, 1, 0, 0, 2, 2);
        // Ends 0 3 4 1 2 5: lines 0-3, 1-4, 2-5.
        drawn(2, "2 1", "1 2", 1, 1, 1, 1, 0, 3);
        // Ends 0 4 3 2 1 5: lines 0-4, 2-3, 1-5.
        drawn(2, "-2 -1", "1 2", 2, 2, 0, 0, 2, 2);
        // Ends 0 3 4 1 2 5 6 9 10 7 8 11: the lines of 2 1 twice, side by side.
        drawn(5, "2 1 3 5 4", "1 2 3 4 5", 2, 2, 2, 2, 0, 6);
        // One inside the other: the outer one stands together only because the last spot is beside the first.
        drawn(5, "2 4 3 5 1", "1 2 3 4 5", 2, 2, 2, 2, 0, 6);
        // 2 1 3 5 4 under other names and signs: what is drawn is the relative row.
        drawn(5, "-1 4 3 2 5", "4 -1 3 5 2", 2, 2, 2, 2, 0, 6);
        // -1 behind -2 is adjacent, -2 behind 0 and 3 behind -1 are not.
        drawn(3, "-2 -1 3", "1 2 3", 3, 3, 0, 0, 2, 2);
    }

    private static void drawn(int genes, String first, String second, int... due) {
        ReversalDesk desk = Check.desk(genes, first, second);
        for (int what = 0; what < due.length; what++) {
            CHECK.same("drawing " + first + " over " + second + ", " + what, desk.drawing(0, 1, what), due[what]);
        }
    }

    private static void drawingRefusesOtherQuestions() {
        ReversalDesk desk = Check.desk(4, "2 1 3 4");
        for (int what : new int[] {-1, 6, Integer.MIN_VALUE, Integer.MAX_VALUE}) {
            CHECK.illegalArgument("drawing of " + what, () -> desk.drawing(0, 1, what));
        }
    }

    private static void lines() {
        lined(1, "1", 1, 203);
        lined(1, "-1", 2, 103);
        lined(2, "2 1", 3, 104, 205);
        lined(2, "-2 -1", 4, 203, 105);
        // Ends 0 5 6 2 1 3 4 7.
        lined(3, "3 -1 2", 4, 305, 106, 207);
    }

    private static void lined(int genes, String first, int... due) {
        ReversalDesk desk = Check.desk(genes, first);
        for (int k = 0; k < due.length; k++) {
            CHECK.same("line " + k + " of " + first, desk.line(0, 1, k), due[k]);
        }
    }

    private static void lineRefusesOtherLines() {
        for (int genes = 1; genes <= 6; genes++) {
            ReversalDesk desk = Check.desk(genes);
            int last = genes;
            CHECK.same("the last line", desk.line(0, 1, last), 100 * 2 * last + 2 * last + 1);
            CHECK.illegalArgument("the line behind the last", () -> desk.line(0, 1, last + 1));
            CHECK.illegalArgument("a line below 0", () -> desk.line(0, 1, -1));
            CHECK.illegalArgument("the least number", () -> desk.line(0, 1, Integer.MIN_VALUE));
        }
    }

    private static void intervals() {
        common(1, "1", "-1");
        common(2, "2 1", "1 -2", 1);
        common(3, "1 2 3", "1 2 3", 1, 2, 12);
        common(4, "2 4 1 3", "1 2 3 4", 3);
        common(4, "3 -1 2 -4", "1 2 3 4", 2, 3, 12);
        common(4, "1 2 3 4", "3 -1 2 -4", 1, 2, 3);
        common(6, "1 2 3 4 5 6", "-1 2 -3 4 -5 6", 1, 2, 3, 4, 5, 12, 13, 14, 15, 23, 24, 25, 34, 35, 45);
    }

    private static void common(int genes, String first, String second, int... due) {
        ReversalDesk desk = Check.desk(genes, first, second);
        String what = "interval of " + first + " and " + second + ", ";
        for (int k = 0; k < due.length; k++) {
            CHECK.same(what + k, desk.interval(0, 1, k), due[k]);
        }
        for (int k : new int[] {due.length, Integer.MAX_VALUE, -1, Integer.MIN_VALUE}) {
            CHECK.same(what + k, desk.interval(0, 1, k), ReversalDesk.NONE);
        }
    }
}
