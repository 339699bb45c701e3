/** The drawing's terms and promises 10 to 18: each sentence that names a boundary case has a test of its own. */
public final class QuestionEdgeTest {
    private static final Check CHECK = new Check("QuestionEdgeTest");
    private static final int NONE = ReversalDesk.NONE;
    private static final int LEAST = Integer.MIN_VALUE;
    private static final int GREATEST = Integer.MAX_VALUE;
    private static final String[] PLAIN = {"", "1", "1 2", "1 2 3", "1 2 3 4", "1 2 3 4 5", "1 2 3 4 5 6"};
    private static final int CYCLES = 0;
    private static final int PARTS = 1;
    private static final int BAD_PARTS = 2;
    private static final int HURDLES = 3;
    private static final int ORIENTED = 4;
    private static final int BREAKPOINTS = 5;

    public static void main(String[] args) {
        lessOrders();
        relativeSigns();
        orientedLines();
        crossingLines();
        linesTogetherByOthers();
        badParts();
        shortLines();
        hurdlesRound();
        adjacentAtTheEnds();
        commonIntervalsOfTwo();

        distanceOfOneGene();
        distanceOfSixGenes();
        distanceToItself();

        drawingOfOneGene();
        drawingOfSixGenes();
        drawingOfItself();
        drawingOfAnotherWhat();

        lineLesserSpotFirst();
        lineFirstAndLast();
        lineOtherNumbers();

        intervalsInTheirOrder();
        intervalFewer();

        scenarioAsFewAsTheDistance();
        scenarioLeastPlaces();
        scenarioReplacesAnother();

        stepWithoutScenario();
        stepOtherNumbers();
        stepOfNoReversals();

        waysOfNoReversals();
        waysOfFourGenes();
        waysOfFiveOrSix();

        circleOfItself();
        circleBelowZeroOrTooGreat();
        circleOfFiveOrSix();

        medianLeastSum();
        medianOfSlotFour();
        medianNothingUndone();
        medianOfFiveOrSix();
        CHECK.end();
    }

    private static int genesOf(String order) {
        return order.split(" ").length;
    }

    private static ReversalDesk overPlain(String order) {
        return Check.desk(genesOf(order), order, PLAIN[genesOf(order)]);
    }

    private static void drawn(String order, int what, int due) {
        CHECK.same("drawing of " + order + ", " + what, overPlain(order).drawing(0, 1, what), due);
    }

    // Terms

    private static void lessOrders() {
        CHECK.sentence("Terms: LESS if it has the lesser signed number at the first place at which they differ");
        tie("1 2 3", "-3 -2 -1", "-3 -1 -2", 4, "-3 -2 -1", "1 2 3");
        tie("1 2 3", "-3 -1 -2", "-3 -1 2", 4, "-3 -1 -2", "-3 -1 2");
        tie("1 2 3", "-3 -1 2", "-2 3 1", 5, "-3 -2 1", "-2 -1 3");
        tie("1 2 3", "1 3 2", "2 1 -3", 5, "1 -3 -2", "1 -2 -3");
        tie("1 2 3", "-2 1 -3", "-2 3 -1", 4, "-2 1 -3", "-2 3 -1");
        tie("1 2 3 4", "-4 -3 2 1", "3 1 4 2", 6, "-4 -3 2 -1", "-4 -3 2 1");
        tie("1 2 3 4", "1 3 -4 2", "1 3 2 -4", 5, "1 3 -2 4", "1 3 4 -2");
    }

    /** The rival has the same sum as the median, and is not less. */
    private static void tie(String a, String b, String c, int sum, String due, String rival) {
        ReversalDesk desk = Check.desk(genesOf(a), a, b, c, rival);
        int rivalSum = desk.distance(3, 0) + desk.distance(3, 1) + desk.distance(3, 2);
        CHECK.same("sum of the rival " + rival, rivalSum, sum);
        CHECK.same("sum of the median of " + a + ", " + b + ", " + c, desk.median(0, 1, 2), sum);
        CHECK.same("the median", Check.order(desk, 4, genesOf(a)), due);
    }

    private static void relativeSigns() {
        CHECK.sentence("Terms: the row has there q + 1, below 0 if these signs differ");
        // Relative rows 1, -1, -1 and 1.
        String[][] pairs = {{"1", "1"}, {"1", "-1"}, {"-1", "1"}, {"-1", "-1"}};
        int[] breakpoints = {0, 2, 2, 0};
        for (int k = 0; k < 4; k++) {
            ReversalDesk desk = Check.desk(1, pairs[k]);
            CHECK.same(pairs[k][0] + " over " + pairs[k][1], desk.drawing(0, 1, BREAKPOINTS), breakpoints[k]);
        }
        // The row of 2 -1 over 1 2 is 2 -1; the other way round it is -2 1.
        ReversalDesk desk = Check.desk(2, "2 -1", "1 2");
        CHECK.same("line 0 of 2 -1", desk.line(0, 1, 0), 4);
        CHECK.same("line 0 of -2 1", desk.line(1, 0, 0), 3);
    }

    private static void orientedLines() {
        CHECK.sentence("Terms: it is ORIENTED if p + q is even");
        // Lines 0-1 and 2-3; then 0-2 and 1-3; then 0-3, 1-4 and 2-5.
        drawn("1", ORIENTED, 0);
        drawn("-1", ORIENTED, 2);
        drawn("2 1", ORIENTED, 0);
        // Ends 0 2 1 4 3 6 5 8 7 10 9 12 11 13: 0-2 and 11-13 alone, the others 1-4, 3-6 and so on.
        drawn("-1 -2 -3 -4 -5 -6", ORIENTED, 2);
    }

    private static void crossingLines() {
        CHECK.sentence("Terms: CROSS if just one of the spots of the second one lies between those of the first one");
        // 2-3 has both spots within 0-4 and within 1-5; those two cross.
        drawn("-2 -1", PARTS, 2);
        // 6-7 and 8-9 lie beside 0-3, 1-4 and 2-5, with none within.
        drawn("2 1 3 4", PARTS, 3);
        // Three lines within, three around them.
        drawn("2 4 3 5 1", PARTS, 2);
    }

    private static void linesTogetherByOthers() {
        CHECK.sentence("Terms: Gray lines belong together if they cross, or by others that they belong together with");
        // 0-2 and 3-5 do not cross, but 1-4 crosses both.
        drawn("-1 -2", PARTS, 1);
        // 0-2, 1-4, 3-6, 5-8, 7-10, 9-12, 11-13: a chain of all seven.
        drawn("-1 -2 -3 -4 -5 -6", PARTS, 1);
    }

    private static void badParts() {
        CHECK.sentence("Terms: A part is BAD if none of its lines is oriented");
        drawn("2 1", BAD_PARTS, 1);
        // 0-2 and 3-5 are oriented, 1-4 is not.
        drawn("-1 -2", BAD_PARTS, 0);
        // Beside the bad part one of 6-8 and 7-9, both oriented.
        drawn("2 1 3 -4", BAD_PARTS, 1);
        drawn("2 1 3 -4", PARTS, 2);
        drawn("2 1 3 5 4", BAD_PARTS, 2);
    }

    private static void shortLines() {
        CHECK.sentence("Terms: and it is not a short line alone");
        for (int n = 1; n <= 6; n++) {
            drawn(PLAIN[n], BAD_PARTS, 0);
            drawn(PLAIN[n], PARTS, n + 1);
        }
        drawn("2 1 3 4 5 6", BAD_PARTS, 1);
        drawn("1 2 3 4 6 5", BAD_PARTS, 1);
        drawn("-6 -5 -4 -3 -2 -1", BAD_PARTS, 0);
    }

    private static void hurdlesRound() {
        CHECK.sentence("Terms: the last one is thought of as beside the first one");
        // The spots of the part around are the first and the last ones.
        for (String nested : new String[] {"2 4 3 5 1", "5 1 3 2 4", "2 4 3 5 1 6", "1 3 5 4 6 2"}) {
            drawn(nested, BAD_PARTS, 2);
            drawn(nested, HURDLES, 2);
            CHECK.same("distance of " + nested, overPlain(nested).distance(0, 1), 6);
        }
        drawn("2 1 3 5 4", HURDLES, 2);
        drawn("2 1", HURDLES, 1);
    }

    private static void adjacentAtTheEnds() {
        CHECK.sentence("Terms: the relative row, with 0 before it and N + 1 behind it");
        drawn("-1 2 3 4 5 6", BREAKPOINTS, 2);
        drawn("1 2 3 4 5 -6", BREAKPOINTS, 2);
        // Only at the two ends; -6 and -5 are adjacent as 1 and 2 are.
        drawn("-6 -5 -4 -3 -2 -1", BREAKPOINTS, 2);
        // 1 less is not 1 more.
        drawn("6 5 4 3 2 1", BREAKPOINTS, 7);
        drawn("1 -2", BREAKPOINTS, 2);
        drawn("2 3 1", BREAKPOINTS, 3);
    }

    private static void commonIntervalsOfTwo() {
        CHECK.sentence("Terms: A COMMON interval are some places beside each other of the first order, two at least");
        intervals("1", "1");
        intervals("1", "-1");
        intervals("1 2", "-2 1", 1);
        intervals("2 4 1 3", "1 2 3 4", 3);
        // 2 4 6 1 3 5: but for all of them, no genes stand together in both.
        intervals("2 4 6 1 3 5", "1 2 3 4 5 6", 5);
    }

    private static void intervals(String first, String second, int... due) {
        ReversalDesk desk = Check.desk(genesOf(first), first, second);
        String what = "interval of " + first + " and " + second + ", ";
        for (int k = 0; k < due.length; k++) {
            CHECK.same(what + k, desk.interval(0, 1, k), due[k]);
        }
        CHECK.same(what + due.length, desk.interval(0, 1, due.length), NONE);
    }

    // Promise 10

    private static void distanceOfOneGene() {
        CHECK.sentence("Promise 10: The distance of the orders of two slots (one gene)");
        CHECK.same("1 to 1", overPlain("1").distance(0, 1), 0);
        CHECK.same("-1 to 1", overPlain("-1").distance(0, 1), 1);
        CHECK.same("1 to -1", overPlain("-1").distance(1, 0), 1);
    }

    private static void distanceOfSixGenes() {
        CHECK.sentence("Promise 10: The distance of the orders of two slots (six genes)");
        CHECK.same("all turned", overPlain("-6 -5 -4 -3 -2 -1").distance(0, 1), 1);
        CHECK.same("each turned", overPlain("-1 -2 -3 -4 -5 -6").distance(0, 1), 6);
        CHECK.same("the greatest, 7", overPlain("2 1 4 3 6 5").distance(0, 1), 7);
        CHECK.same("and back", overPlain("2 1 4 3 6 5").distance(1, 0), 7);
        CHECK.same("of slot 4, too", overPlain("6 5 4 3 2 1").distance(0, 4), 7);
    }

    private static void distanceToItself() {
        CHECK.sentence("Promise 10: The distance of the orders of two slots (a slot with itself)");
        for (String order : new String[] {"-1", "2 1", "2 -4 1 3", "2 4 3 5 1", "6 5 4 3 2 1"}) {
            ReversalDesk desk = overPlain(order);
            CHECK.same("slot 0", desk.distance(0, 0), 0);
            CHECK.same("slot 4", desk.distance(4, 4), 0);
            desk.copy(0, 2);
            CHECK.same("a slot with the same order", desk.distance(0, 2), 0);
        }
    }

    // Promise 11

    private static void drawingOfOneGene() {
        CHECK.sentence("Promise 11: one gene");
        drawnAll("1", "1", 2, 2, 0, 0, 0, 0);
        drawnAll("-1", "1", 1, 1, 0, 0, 2, 2);
        drawnAll("1", "-1", 1, 1, 0, 0, 2, 2);
    }

    private static void drawnAll(String first, String second, int... due) {
        ReversalDesk desk = Check.desk(genesOf(first), first, second);
        for (int what = CYCLES; what <= BREAKPOINTS; what++) {
            CHECK.same("drawing " + first + " over " + second + ", " + what, desk.drawing(0, 1, what), due[what]);
        }
    }

    private static void drawingOfSixGenes() {
        CHECK.sentence("Promise 11: six genes");
        drawnAll("1 2 3 4 5 6", "1 2 3 4 5 6", 7, 7, 0, 0, 0, 0);
        // 0-12 and 1-13 with five short lines within.
        drawnAll("-6 -5 -4 -3 -2 -1", "1 2 3 4 5 6", 6, 6, 0, 0, 2, 2);
        // 0-3, 1-4, 2-7, 5-8, 6-11, 9-12, 10-13.
        drawnAll("2 1 4 3 6 5", "1 2 3 4 5 6", 1, 1, 1, 1, 0, 7);
        // 0-3, 1-4, 2-5; 6-9, 7-10, 8-11; 12-13.
        drawnAll("2 1 3 5 4 6", "1 2 3 4 5 6", 3, 3, 2, 2, 0, 6);
    }

    private static void drawingOfItself() {
        CHECK.sentence("Promise 11: a slot with itself");
        for (String order : new String[] {"-1", "2 1", "3 -1 2", "2 -4 1 3", "2 4 3 5 1", "6 -5 4 3 -2 1"}) {
            int genes = genesOf(order);
            ReversalDesk desk = overPlain(order);
            int[] due = {genes + 1, genes + 1, 0, 0, 0, 0};
            for (int what = CYCLES; what <= BREAKPOINTS; what++) {
                CHECK.same("drawing of " + order + " with itself, " + what, desk.drawing(0, 0, what), due[what]);
            }
        }
    }

    private static void drawingOfAnotherWhat() {
        CHECK.sentence("Promise 11: IllegalArgumentException: another what.");
        for (int n = 1; n <= 6; n++) {
            ReversalDesk desk = Check.desk(n);
            for (int what : new int[] {-1, 6, 7, LEAST, GREATEST}) {
                CHECK.illegalArgument("drawing, " + what, () -> desk.drawing(0, 1, what));
            }
            CHECK.same("drawing, 0", desk.drawing(0, 1, 0), n + 1);
            CHECK.same("drawing, 5", desk.drawing(0, 1, 5), 0);
        }
    }

    // Promise 12

    private static void lineLesserSpotFirst() {
        CHECK.sentence("Promise 12: 100 times the lesser one and the greater one");
        // Ends 0 2 1 3 and 0 3 4 1 2 5: end 2 stands behind end 3.
        CHECK.same("line 0 of -1", overPlain("-1").line(0, 1, 0), 2);
        CHECK.same("line 1 of -1", overPlain("-1").line(0, 1, 1), 103);
        CHECK.same("line 1 of 2 1", overPlain("2 1").line(0, 1, 1), 104);
        // Ends 0 12 11 .. 1 13.
        CHECK.same("line 0 of six turned", overPlain("-6 -5 -4 -3 -2 -1").line(0, 1, 0), 12);
        CHECK.same("line 1 of six turned", overPlain("-6 -5 -4 -3 -2 -1").line(0, 1, 1), 1011);
        CHECK.same("line 5 of six turned", overPlain("-6 -5 -4 -3 -2 -1").line(0, 1, 5), 203);
        CHECK.same("line 6 of six turned", overPlain("-6 -5 -4 -3 -2 -1").line(0, 1, 6), 113);
    }

    private static void lineFirstAndLast() {
        CHECK.sentence("Promise 12: gray line k, from 0 to N, of a slot with itself");
        for (int n = 1; n <= 6; n++) {
            ReversalDesk desk = Check.desk(n);
            desk.reverse(0, 0, n - 1);
            for (int k = 0; k <= n; k++) {
                CHECK.same("line " + k + " of " + n, desk.line(0, 0, k), 202 * k + 1);
            }
        }
    }

    private static void lineOtherNumbers() {
        CHECK.sentence("Promise 12: IllegalArgumentException: k is not 0 .. N.");
        for (int n = 1; n <= 6; n++) {
            ReversalDesk desk = Check.desk(n);
            for (int k : new int[] {-1, n + 1, 7, LEAST, GREATEST}) {
                CHECK.illegalArgument("line " + k + " of " + n, () -> desk.line(0, 1, k));
            }
        }
    }

    // Promise 13

    private static void intervalsInTheirOrder() {
        CHECK.sentence("Promise 13: lesser first places first, of such those with lesser last places");
        intervals("1 2 3", "1 2 3", 1, 2, 12);
        intervals("3 -1 2 -4", "1 2 3 4", 2, 3, 12);
        // The places are those of the first order.
        intervals("1 2 3 4", "3 -1 2 -4", 1, 2, 3);
        intervals("6 5 4 3 2 1", "1 2 3 4 5 6", 1, 2, 3, 4, 5, 12, 13, 14, 15, 23, 24, 25, 34, 35, 45);
        ReversalDesk desk = Check.desk(6, "2 4 6 1 3 5");
        CHECK.same("a slot with itself, the first", desk.interval(0, 0, 0), 1);
        CHECK.same("a slot with itself, the last", desk.interval(0, 0, 14), 45);
    }

    private static void intervalFewer() {
        CHECK.sentence("Promise 13: NONE when there are fewer.");
        int[] most = {0, 0, 1, 3, 6, 10, 15};
        for (int n = 1; n <= 6; n++) {
            ReversalDesk desk = Check.desk(n);
            for (int k : new int[] {most[n], most[n] + 1, GREATEST}) {
                CHECK.same("interval " + k + " of " + n, desk.interval(0, 1, k), NONE);
            }
            // The document tells no exception for these, and counts from 0.
            for (int k : new int[] {-1, LEAST}) {
                CHECK.same("interval " + k + " of " + n, desk.interval(0, 1, k), NONE);
            }
        }
    }

    // Promise 14

    private static void scenarioAsFewAsTheDistance() {
        CHECK.sentence("Promise 14: one of as few reversals as the distance");
        leads("1", 0);
        leads("-1", 1);
        leads("2 1", 3);
        leads("3 2 1", 3);
        leads("4 3 2 1", 5);
        leads("2 4 3 5 1", 6);
        leads("-6 -5 -4 -3 -2 -1", 1);
        leads("2 1 4 3 6 5", 7);
        leads("6 5 4 3 2 1", 7);
    }

    private static void leads(String order, int due) {
        int genes = genesOf(order);
        ReversalDesk desk = overPlain(order);
        CHECK.same("scenario of " + order, desk.scenario(0, 1), due);
        CHECK.same("the first slot", Check.order(desk, 0, genes), order);
        CHECK.same("the second slot", Check.order(desk, 1, genes), PLAIN[genes]);
        for (int k = 0; k < due; k++) {
            desk.reverse(0, desk.step(k) / 10, desk.step(k) % 10);
            CHECK.same("distance behind step " + k, desk.distance(0, 1), due - k - 1);
        }
        CHECK.same("where it leads", Check.order(desk, 0, genes), PLAIN[genes]);
    }

    private static void scenarioLeastPlaces() {
        CHECK.sentence("Promise 14: the one with the least i, of such the one with the least j");
        for (String order : new String[] {"2 1", "3 2 1", "4 3 2 1", "2 4 3 5 1", "6 5 4 3 2 1", "-3 5 -1 6 2 4"}) {
            int steps = overPlain(order).scenario(0, 1);
            ReversalDesk walk = overPlain(order);
            walk.scenario(0, 1);
            for (int k = 0; k < steps; k++) {
                CHECK.same("step " + k + " of " + order, walk.step(k), firstNearer(Check.order(walk, 0, genesOf(order))));
                walk.reverse(0, walk.step(k) / 10, walk.step(k) % 10);
            }
        }
        CHECK.same("the only reversal of places 0 .. 5", firstStep("-6 -5 -4 -3 -2 -1"), 5);
        CHECK.same("the only reversal of place 5", firstStep("1 2 3 4 5 -6"), 55);
        // 0..0 and 5..5 both come nearer.
        CHECK.same("the least of two", firstStep("-1 2 3 4 5 -6"), 0);
    }

    private static int firstStep(String order) {
        ReversalDesk desk = overPlain(order);
        desk.scenario(0, 1);
        return desk.step(0);
    }

    private static int firstNearer(String order) {
        ReversalDesk desk = overPlain(order);
        int far = desk.distance(0, 1);
        for (int i = 0; i < genesOf(order); i++) {
            for (int j = i; j < genesOf(order); j++) {
                desk.reverse(0, i, j);
                if (desk.distance(0, 1) < far) {
                    return 10 * i + j;
                }
                desk.undo(0);
            }
        }
        return NONE;
    }

    private static void scenarioReplacesAnother() {
        CHECK.sentence("Promise 14: The SCENARIO becomes one");
        ReversalDesk desk = Check.desk(6, "6 5 4 3 2 1", "1 2 3 4 5 -6");
        desk.scenario(0, 2);
        CHECK.same("a shorter one", desk.scenario(1, 2), 1);
        CHECK.same("its step", desk.step(0), 55);
        CHECK.illegalArgument("none of the longer one before", () -> desk.step(1));
        CHECK.outOfBounds("a refused one", () -> desk.scenario(0, 5));
        CHECK.same("the step after it", desk.step(0), 55);
        CHECK.illegalArgument("and no other", () -> desk.step(1));
    }

    // Promise 15

    private static void stepWithoutScenario() {
        CHECK.sentence("Promise 15: IllegalStateException: there is no scenario");
        for (int k : new int[] {0, 1, -1, 7, LEAST, GREATEST}) {
            ReversalDesk desk = new ReversalDesk();
            CHECK.illegalState("step " + k + " of a new object", () -> desk.step(k));
            CHECK.outOfBounds("a refused scenario", () -> desk.scenario(5, 0));
            CHECK.illegalState("step " + k + " after it", () -> desk.step(k));
            desk.scenario(0, 1);
            desk.genes(6);
            CHECK.illegalState("step " + k + " after genes", () -> desk.step(k));
        }
    }

    private static void stepOtherNumbers() {
        CHECK.sentence("Promise 15: IllegalArgumentException: it has no such reversal");
        ReversalDesk desk = overPlain("2 1 4 3 6 5");
        desk.scenario(0, 1);
        CHECK.same("the first of seven is there", desk.step(0) >= 0 ? 1 : 0, 1);
        CHECK.same("the last of seven is there", desk.step(6) >= 0 ? 1 : 0, 1);
        for (int k : new int[] {-1, 7, 8, LEAST, GREATEST}) {
            CHECK.illegalArgument("step " + k + " of seven", () -> desk.step(k));
        }
    }

    private static void stepOfNoReversals() {
        CHECK.sentence("Promise 15: (one of no reversals has none)");
        for (int n = 1; n <= 6; n++) {
            ReversalDesk desk = Check.desk(n);
            CHECK.same("scenario", desk.scenario(0, 1), 0);
            for (int k : new int[] {0, -1, 1, LEAST, GREATEST}) {
                CHECK.illegalArgument("step " + k + " of none", () -> desk.step(k));
            }
        }
    }

    // Promise 16

    private static void waysOfNoReversals() {
        CHECK.sentence("Promise 16: In how many ways as few reversals as the distance can lead (none)");
        for (int n = 1; n <= 4; n++) {
            ReversalDesk desk = Check.desk(n);
            CHECK.same("ways of " + n, desk.ways(0, 1), 1);
            desk.reverse(4, 0, n - 1);
            CHECK.same("ways of slot 4 with itself", desk.ways(4, 4), 1);
            CHECK.same("ways of one reversal", desk.ways(4, 0), 1);
        }
    }

    private static void waysOfFourGenes() {
        CHECK.sentence("Promise 16: from the order of the first slot to that of the second one (up to four genes)");
        String[] orders = {"-1", "2 1", "3 2 1", "4 3 2 1", "2 1 4 3", "2 4 1 3"};
        int[] due = {1, 6, 2, 170, 180, 200};
        for (int k = 0; k < orders.length; k++) {
            CHECK.same("ways of " + orders[k], overPlain(orders[k]).ways(0, 1), due[k]);
            CHECK.same("ways to " + orders[k], overPlain(orders[k]).ways(1, 0), due[k]);
        }
    }

    private static void waysOfFiveOrSix() {
        CHECK.sentence("Promise 16: UnsupportedOperationException: N is 5 or 6.");
        ReversalDesk desk = new ReversalDesk();
        CHECK.same("ways of four genes", desk.ways(0, 1), 1);
        for (int n = 5; n <= 6; n++) {
            desk.genes(n);
            CHECK.unsupported("ways of " + n, () -> desk.ways(0, 1));
            CHECK.unsupported("a slot with itself", () -> desk.ways(4, 4));
            CHECK.outOfBounds("a wrong slot first", () -> desk.ways(0, 5));
        }
        desk.genes(4);
        CHECK.same("ways of four genes again", desk.ways(0, 1), 1);
    }

    // Promise 17

    private static void circleOfItself() {
        CHECK.sentence("Promise 17: How many orders have a distance from a slot's order");
        int[][] due = {{1, 1}, {1, 3, 3, 1}, {1, 6, 16, 25}, {1, 10, 50, 170, 145, 8}};
        String[] orders = {"-1", "2 1", "-2 3 -1", "4 3 2 1"};
        for (int n = 1; n <= 4; n++) {
            ReversalDesk desk = overPlain(orders[n - 1]);
            for (int far = 0; far < due[n - 1].length; far++) {
                CHECK.same("circle at " + far + " of " + n, desk.circle(0, far), due[n - 1][far]);
                CHECK.same("of the plain order", desk.circle(1, far), due[n - 1][far]);
            }
        }
    }

    private static void circleBelowZeroOrTooGreat() {
        CHECK.sentence("Promise 17: (0 for one below 0 or too great)");
        int[] greatest = {0, 1, 3, 3, 5};
        for (int n = 1; n <= 4; n++) {
            ReversalDesk desk = Check.desk(n);
            for (int far : new int[] {-1, LEAST, greatest[n] + 1, greatest[n] + 2, GREATEST}) {
                CHECK.same("circle at " + far + " of " + n, desk.circle(0, far), 0);
            }
            CHECK.no("the greatest distance has orders", desk.circle(0, greatest[n]) == 0);
        }
    }

    private static void circleOfFiveOrSix() {
        CHECK.sentence("Promise 17: UnsupportedOperationException: N is 5 or 6.");
        ReversalDesk desk = new ReversalDesk();
        for (int n = 5; n <= 6; n++) {
            desk.genes(n);
            for (int far : new int[] {0, 1, -1, GREATEST}) {
                CHECK.unsupported("circle at " + far + " of " + n, () -> desk.circle(0, far));
            }
            CHECK.outOfBounds("a wrong slot first", () -> desk.circle(-1, 0));
        }
        desk.genes(4);
        CHECK.same("four genes again", desk.circle(0, 0), 1);
    }

    // Promise 18

    private static void medianLeastSum() {
        CHECK.sentence("Promise 18: the sum of the distances to these is least");
        median("1", "1", "1", 0, "1");
        median("-1", "1", "-1", 1, "-1");
        median("2 1", "2 1", "1 2", 3, "2 1");
        // None of the three themselves: each is two from the others.
        median("-1 -2 3 4", "1 -2 -3 4", "-1 2 -3 4", 3, "-1 -2 -3 4");
        median("4 3 2 1", "1 2 3 4", "4 3 2 1", 5, "4 3 2 1");
    }

    private static void median(String a, String b, String c, int sum, String due) {
        int genes = genesOf(a);
        ReversalDesk desk = Check.desk(genes, a, b, c);
        CHECK.same("median of " + a + ", " + b + ", " + c, desk.median(0, 1, 2), sum);
        CHECK.same("slot 4", Check.order(desk, 4, genes), due);
        CHECK.same("slot 0", Check.order(desk, 0, genes), a);
        CHECK.same("slot 1", Check.order(desk, 1, genes), b);
        CHECK.same("slot 2", Check.order(desk, 2, genes), c);
        CHECK.same("slot 3", Check.order(desk, 3, genes), PLAIN[genes]);
    }

    private static void medianOfSlotFour() {
        CHECK.sentence("Promise 18: it becomes the order of slot 4 (slot 4 as one of the three)");
        int[][] threes = {{4, 0, 1}, {0, 4, 1}, {0, 1, 4}};
        for (int[] three : threes) {
            // The sums are those of slot 4 as it was: with 1 2 3 there the least would be another.
            ReversalDesk desk = Check.desk(3, "-1 -2 3", "1 -2 -3", "1 2 3", "1 2 3", "-1 2 -3");
            CHECK.same("the sum", desk.median(three[0], three[1], three[2]), 3);
            CHECK.same("slot 4", Check.order(desk, 4, 3), "-1 -2 -3");
            CHECK.same("the sum with the new slot 4", desk.median(2, 2, 4), 3);
            CHECK.same("slot 4 then", Check.order(desk, 4, 3), "1 2 3");
        }
        ReversalDesk desk = Check.desk(4);
        desk.reverse(4, 0, 3);
        CHECK.same("slot 4 three times", desk.median(4, 4, 4), 0);
        CHECK.same("its order", Check.order(desk, 4, 4), "-4 -3 -2 -1");
        CHECK.same("slot 4 twice", desk.median(4, 0, 4), 1);
        CHECK.same("its order still", Check.order(desk, 4, 4), "-4 -3 -2 -1");
    }

    private static void medianNothingUndone() {
        CHECK.sentence("Promise 18: of which nothing can be undone");
        ReversalDesk desk = Check.desk(4);
        desk.reverse(0, 0, 0);
        desk.reverse(4, 0, 3);
        desk.reverse(4, 1, 2);
        desk.median(4, 4, 4);
        CHECK.no("undo of slot 4, whose order stayed", desk.undo(4));
        desk.reverse(4, 0, 3);
        desk.median(1, 2, 3);
        CHECK.no("undo of slot 4, whose order changed", desk.undo(4));
        CHECK.same("slot 4", Check.order(desk, 4, 4), "1 2 3 4");
        CHECK.yes("undo of another slot", desk.undo(0));
    }

    private static void medianOfFiveOrSix() {
        CHECK.sentence("Promise 18: UnsupportedOperationException: N is 5 or 6.");
        ReversalDesk desk = new ReversalDesk();
        for (int n = 5; n <= 6; n++) {
            desk.genes(n);
            desk.reverse(4, 0, 1);
            CHECK.unsupported("median of " + n, () -> desk.median(0, 1, 2));
            CHECK.unsupported("three times the same", () -> desk.median(4, 4, 4));
            CHECK.outOfBounds("a wrong slot first", () -> desk.median(0, 1, 5));
            CHECK.same("slot 4", Check.order(desk, 4, 3), "-2 -1 3");
            CHECK.yes("undo of slot 4", desk.undo(4));
        }
    }
}
