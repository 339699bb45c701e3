import java.util.List;
import java.util.Random;

/** Promises 10 to 18 against the model: over every order, or every pair or triple where there are few. */
public final class EveryOrderTest {
    private static final Check CHECK = new Check("EveryOrderTest");

    public static void main(String[] args) {
        for (int genes = 1; genes <= 6; genes++) {
            List<List<Integer>> orders = Model.allOrders(genes);
            everyOrderToPlain(genes, orders);
            pairs(genes, orders);
            if (genes <= 4) {
                triples(genes, orders);
            }
        }
        CHECK.end();
    }

    private static void everyOrderToPlain(int genes, List<List<Integer>> orders) {
        List<Integer> plain = Model.plain(genes);
        ReversalDesk desk = null;
        // A desk answers for 512 calls: each is used for few orders.
        for (int at = 0; at < orders.size(); at++) {
            if (at % 8 == 0) {
                desk = Check.desk(genes);
            }
            List<Integer> order = orders.get(at);
            lay(desk, 0, order);
            CHECK.same("distance of " + order, desk.distance(0, 1), Model.distance(order, plain));
            for (int what = 0; what <= 5; what++) {
                CHECK.same("drawing " + what + " of " + order, desk.drawing(0, 1, what), Model.drawing(order, plain, what));
            }
            scenario(desk, order, plain);
        }
    }

    private static void pairs(int genes, List<List<Integer>> orders) {
        Random random = new Random(genes);
        boolean all = genes <= 3;
        int count = all ? orders.size() * orders.size() : 4000;
        for (int at = 0; at < count; at++) {
            List<Integer> first = orders.get(all ? at / orders.size() : random.nextInt(orders.size()));
            List<Integer> second = orders.get(all ? at % orders.size() : random.nextInt(orders.size()));
            ReversalDesk desk = Check.desk(genes, text(first), text(second));
            pair(desk, first, second);
            if (genes <= 4) {
                CHECK.same("ways " + first + " to " + second, desk.ways(0, 1), Model.ways(first, second));
            }
        }
    }

    private static void pair(ReversalDesk desk, List<Integer> first, List<Integer> second) {
        String what = first + " and " + second;
        CHECK.same("distance of " + what, desk.distance(0, 1), Model.distance(first, second));
        for (int asked = 0; asked <= 5; asked++) {
            CHECK.same("drawing of " + what, desk.drawing(0, 1, asked), Model.drawing(first, second, asked));
        }
        List<int[]> lines = Model.grayLines(Model.relative(first, second));
        for (int k = 0; k < lines.size(); k++) {
            CHECK.same("line of " + what, desk.line(0, 1, k), 100 * lines.get(k)[0] + lines.get(k)[1]);
        }
        List<Integer> intervals = Model.intervals(first, second);
        for (int k = 0; k <= intervals.size(); k++) {
            int due = k < intervals.size() ? intervals.get(k) : ReversalDesk.NONE;
            CHECK.same("interval of " + what, desk.interval(0, 1, k), due);
        }
        scenario(desk, first, second);
    }

    private static void scenario(ReversalDesk desk, List<Integer> first, List<Integer> second) {
        List<Integer> steps = Model.scenario(first, second);
        CHECK.same("scenario of " + first + " and " + second, desk.scenario(0, 1), steps.size());
        for (int k = 0; k < steps.size(); k++) {
            CHECK.same("step " + k + " of " + first + " and " + second, desk.step(k), steps.get(k));
        }
    }

    private static void triples(int genes, List<List<Integer>> orders) {
        Random random = new Random(genes);
        boolean all = genes <= 2;
        int size = orders.size();
        int count = all ? size * size * size : 1000;
        for (int at = 0; at < count; at++) {
            List<Integer> a = orders.get(all ? at / size / size : random.nextInt(size));
            List<Integer> b = orders.get(all ? at / size % size : random.nextInt(size));
            List<Integer> c = orders.get(all ? at % size : random.nextInt(size));
            ReversalDesk desk = Check.desk(genes, text(a), text(b), text(c));
            List<Integer> median = Model.median(a, b, c);
            CHECK.same("median of " + a + b + c, desk.median(0, 1, 2), Model.sum(median, a, b, c));
            CHECK.same("the order between " + a + b + c, Check.order(desk, 4, genes), text(median));
            for (int far = 0; far <= genes + 1; far++) {
                CHECK.same("circle of " + a, desk.circle(0, far), Model.circle(a, far));
            }
        }
    }

    private static void lay(ReversalDesk desk, int slot, List<Integer> order) {
        Check.lay(desk, slot, text(order));
    }

    private static String text(List<Integer> order) {
        StringBuilder text = new StringBuilder();
        for (int gene : order) {
            text.append(text.length() == 0 ? "" : " ").append(gene);
        }
        return text.toString();
    }
}
