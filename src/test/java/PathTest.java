/** Promises 14 to 18: scenarios, ways, circles and medians, worked out by hand. */
public final class PathTest {
    private static final Check CHECK = new Check("PathTest");

    public static void main(String[] args) {
        scenarios();
        stepRefusesWhatIsNotThere();
        scenarioStays();
        waysOfFewGenes();
        circles();
        medians();
        medianTakesTheLeastOrder();
        fiveAndSixAreTooMany();
        CHECK.end();
    }

    private static void scenarios() {
        leads(1, "-1", "1", 0);
        leads(2, "1 2", "1 2");
        leads(2, "-2 -1", "1 2", 1);
        // By -2 1 and -1 2: a reversal of place 0 alone comes before one of 0..1.
        leads(2, "2 1", "1 2", 0, 1, 0);
        leads(3, "-1 -2 -3", "1 2 3", 0, 11, 22);
        leads(6, "-6 -5 -4 -3 -2 -1", "1 2 3 4 5 6", 5);
        leads(6, "1 2 3 4 5 6", "1 2 -5 -4 -3 6", 24);
    }

    private static void leads(int genes, String first, String second, int... due) {
        ReversalDesk desk = Check.desk(genes, first, second);
        CHECK.same("scenario from " + first, desk.scenario(0, 1), due.length);
        for (int k = 0; k < due.length; k++) {
            CHECK.same("step " + k + " from " + first, desk.step(k), due[k]);
        }
        CHECK.illegalArgument("the step behind the last", () -> desk.step(due.length));
    }

    private static void stepRefusesWhatIsNotThere() {
        ReversalDesk desk = Check.desk(3, "-1 2 -3", "1 2 3");
        CHECK.illegalState("no scenario", () -> desk.step(0));
        CHECK.illegalState("no scenario, and no such step", () -> desk.step(-1));
        desk.scenario(0, 1);
        CHECK.illegalArgument("below 0", () -> desk.step(-1));
        CHECK.illegalArgument("the least number", () -> desk.step(Integer.MIN_VALUE));
        CHECK.illegalArgument("two steps have no third", () -> desk.step(2));
        desk.scenario(1, 1);
        CHECK.illegalArgument("no steps", () -> desk.step(0));
        desk.genes(3);
        CHECK.illegalState("after genes", () -> desk.step(0));
    }

    private static void scenarioStays() {
        ReversalDesk desk = Check.desk(3, "-1 2 -3", "1 2 3");
        desk.scenario(0, 1);
        desk.reverse(0, 0, 2);
        desk.copy(0, 1);
        desk.ways(0, 1);
        desk.median(0, 1, 2);
        CHECK.outOfBounds("a refused scenario", () -> desk.scenario(0, 5));
        CHECK.same("step 0 later", desk.step(0), 0);
        CHECK.same("step 1 later", desk.step(1), 22);
    }

    private static void waysOfFewGenes() {
        go(1, "1", "1", 1);
        go(1, "-1", "1", 1);
        go(2, "-1 -2", "1 2", 2);
        // All of 0..1, 0..0, 1..1 in any order but for the place that moves when 0..1 is in the middle.
        go(2, "2 1", "1 2", 6);
        go(3, "-1 -2 -3", "1 2 3", 6);
        // Single places in any order; and 0..2, 1..3, 0..2, 1..3, or the same from 1..3 on.
        go(4, "-1 -2 -3 -4", "1 2 3 4", 26);
        go(4, "3 -1 2 -4", "3 -1 2 -4", 1);
    }

    private static void go(int genes, String first, String second, int due) {
        ReversalDesk desk = Check.desk(genes, first, second);
        CHECK.same("ways from " + first + " to " + second, desk.ways(0, 1), due);
        CHECK.same("ways back", desk.ways(1, 0), due);
        CHECK.same("ways again", desk.ways(0, 1), due);
    }

    private static void circles() {
        int[][] due = {{1, 1}, {1, 3, 3, 1}};
        for (int genes = 1; genes <= 2; genes++) {
            ReversalDesk desk = Check.desk(genes, "-1 2".substring(0, 2 * genes));
            for (int far = 0; far < due[genes - 1].length; far++) {
                CHECK.same("circle of " + genes + " at " + far, desk.circle(0, far), due[genes - 1][far]);
            }
        }
        int[] orders = {2, 8, 48, 384};
        for (int genes = 1; genes <= 4; genes++) {
            ReversalDesk desk = Check.desk(genes);
            int all = 0;
            for (int far = 0; far <= genes + 1; far++) {
                all += desk.circle(3, far);
            }
            CHECK.same("all circles of " + genes, all, orders[genes - 1]);
            CHECK.same("reversals of " + genes, desk.circle(3, 1), genes * (genes + 1) / 2);
            for (int far : new int[] {-1, genes + 2, Integer.MIN_VALUE, Integer.MAX_VALUE}) {
                CHECK.same("circle at " + far, desk.circle(0, far), 0);
            }
        }
    }

    private static void medians() {
        middle(1, "1", "-1", "-1", 1, "-1");
        middle(1, "1", "1", "-1", 1, "1");
        middle(2, "2 -1", "2 -1", "2 -1", 0, "2 -1");
        middle(3, "-1 2 3", "1 -2 3", "1 2 -3", 3, "1 2 3");
        middle(4, "3 -1 2 -4", "3 -1 2 -4", "1 2 3 4", 4, "3 -1 2 -4");
    }

    private static void middle(int genes, String a, String b, String c, int sum, String due) {
        ReversalDesk desk = Check.desk(genes, a, b, c);
        desk.reverse(4, 0, 0);
        CHECK.same("median of " + a + ", " + b + ", " + c, desk.median(0, 1, 2), sum);
        CHECK.same("the order of slot 4", Check.order(desk, 4, genes), due);
        CHECK.same("nothing of it can be undone", desk.undo(4) ? 1 : 0, 0);
        CHECK.same("the first slot", Check.order(desk, 0, genes), a);
        CHECK.same("median with itself", desk.median(4, 4, 4), 0);
        CHECK.same("slot 4 is kept", Check.order(desk, 4, genes), due);
    }

    /** With 1 2, -1 2 and 1 -2 the sum is 2 at 1 2 alone; with -1 -2 for 1 2 it is 2 at -1 -2 alone. */
    private static void medianTakesTheLeastOrder() {
        middle(2, "1 2", "-1 2", "1 -2", 2, "1 2");
        middle(2, "-1 -2", "-1 2", "1 -2", 2, "-1 -2");
        // Each of the three is two from the other two.
        ReversalDesk desk = Check.desk(3, "-1 -2 3", "1 -2 -3", "-1 2 -3");
        CHECK.same("a sum of three", desk.median(0, 1, 2), 3);
        CHECK.same("the only order one from each", Check.order(desk, 4, 3), "-1 -2 -3");
        // The first two are one apart and three from the third: both have the least sum.
        middle(3, "1 2 3", "-3 -2 -1", "-1 -2 -3", 4, "-3 -2 -1");
        middle(3, "-1 -2 -3", "-3 -2 -1", "1 2 3", 4, "-3 -2 -1");
    }

    private static void fiveAndSixAreTooMany() {
        for (int genes = 5; genes <= 6; genes++) {
            ReversalDesk desk = Check.desk(genes);
            desk.reverse(4, 0, 1);
            CHECK.unsupported("ways", () -> desk.ways(0, 1));
            CHECK.unsupported("circle", () -> desk.circle(0, 1));
            CHECK.unsupported("circle below 0", () -> desk.circle(0, -1));
            CHECK.unsupported("median", () -> desk.median(0, 1, 2));
            CHECK.same("slot 4 can be undone still", desk.undo(4) ? 1 : 0, 1);
        }
    }
}
