import java.util.ArrayDeque;
import java.util.ArrayList;
import java.util.List;

/** The state of a desk as the document tells it, with the model's answers; an exception is answered by its name. */
final class ModelDesk {
    private int genes = 4;
    private String text = "";
    private final List<List<Integer>> slots = new ArrayList<>();
    private final List<ArrayDeque<List<Integer>>> before = new ArrayList<>();
    private List<Integer> scenario = null;

    ModelDesk() {
        for (int slot = 0; slot < 5; slot++) {
            slots.add(Model.plain(4));
            before.add(new ArrayDeque<>());
        }
    }

    private static boolean areSlots(int... asked) {
        for (int slot : asked) {
            if (slot < 0 || slot > 4) {
                return false;
            }
        }
        return true;
    }

    private void set(int slot, List<Integer> order) {
        slots.set(slot, order);
        before.get(slot).clear();
    }

    String genes(int n) {
        if (n < 1 || n > 6) {
            return "IllegalArgumentException";
        }
        genes = n;
        for (int slot = 0; slot < 5; slot++) {
            set(slot, Model.plain(n));
        }
        scenario = null;
        return "done";
    }

    String write(long characters) {
        StringBuilder added = new StringBuilder(text);
        for (long rest = characters; rest != 0; rest >>>= 8) {
            if ((rest & 255) != 0) {
                added.append((char) (rest & 255));
            }
        }
        if (added.length() > 24) {
            return "-1";
        }
        text = added.toString();
        return "" + text.length();
    }

    String wipe() {
        int had = text.length();
        text = "";
        return "" + had;
    }

    String read(int slot) {
        if (!areSlots(slot)) {
            return "IndexOutOfBoundsException";
        }
        for (int size = 0; size <= text.length(); size++) {
            if (!canStart(text.substring(0, size))) {
                return "" + (size - 1);
            }
        }
        List<Integer> order = found(text);
        if (order.size() < genes || !text.matches(".*[0-9] *")) {
            return "" + text.length();
        }
        set(slot, order);
        text = "";
        return "-1";
    }

    private boolean canStart(String start) {
        if (!start.matches("( *[-+]?[1-6])*( *[-+]?)")) {
            return false;
        }
        List<Integer> order = found(start);
        boolean openSign = start.endsWith("+") || start.endsWith("-");
        return order.size() + (openSign ? 1 : 0) <= genes
                && order.stream().allMatch(gene -> Math.abs(gene) <= genes)
                && order.stream().map(Math::abs).distinct().count() == order.size();
    }

    private static List<Integer> found(String start) {
        List<Integer> order = new ArrayList<>();
        for (int at = 0; at < start.length(); at++) {
            if (Character.isDigit(start.charAt(at))) {
                int gene = start.charAt(at) - '0';
                order.add(at > 0 && start.charAt(at - 1) == '-' ? -gene : gene);
            }
        }
        return order;
    }

    String gene(int slot, int place) {
        return areSlots(slot) && place >= 0 && place < genes ? "" + slots.get(slot).get(place) : "IndexOutOfBoundsException";
    }

    String copy(int from, int to) {
        if (!areSlots(from, to)) {
            return "IndexOutOfBoundsException";
        }
        set(to, slots.get(from));
        return "done";
    }

    String reverse(int slot, int i, int j) {
        if (!areSlots(slot) || i < 0 || j >= genes || i > j) {
            return "IndexOutOfBoundsException";
        }
        before.get(slot).addLast(slots.get(slot));
        if (before.get(slot).size() > 8) {
            before.get(slot).removeFirst();
        }
        slots.set(slot, Model.reversed(slots.get(slot), i, j));
        return "done";
    }

    String undo(int slot) {
        if (!areSlots(slot)) {
            return "IndexOutOfBoundsException";
        }
        if (before.get(slot).isEmpty()) {
            return "false";
        }
        slots.set(slot, before.get(slot).removeLast());
        return "true";
    }

    String distance(int a, int b) {
        return areSlots(a, b) ? "" + Model.distance(slots.get(a), slots.get(b)) : "IndexOutOfBoundsException";
    }

    String drawing(int a, int b, int what) {
        if (!areSlots(a, b)) {
            return "IndexOutOfBoundsException";
        }
        return what < 0 || what > 5 ? "IllegalArgumentException" : "" + Model.drawing(slots.get(a), slots.get(b), what);
    }

    String line(int a, int b, int k) {
        if (!areSlots(a, b)) {
            return "IndexOutOfBoundsException";
        }
        if (k < 0 || k > genes) {
            return "IllegalArgumentException";
        }
        int[] spots = Model.grayLines(Model.relative(slots.get(a), slots.get(b))).get(k);
        return "" + (100 * spots[0] + spots[1]);
    }

    String interval(int a, int b, int k) {
        if (!areSlots(a, b)) {
            return "IndexOutOfBoundsException";
        }
        List<Integer> intervals = Model.intervals(slots.get(a), slots.get(b));
        return k >= 0 && k < intervals.size() ? "" + intervals.get(k) : "-1";
    }

    String scenario(int a, int b) {
        if (!areSlots(a, b)) {
            return "IndexOutOfBoundsException";
        }
        scenario = Model.scenario(slots.get(a), slots.get(b));
        return "" + scenario.size();
    }

    String step(int k) {
        if (scenario == null) {
            return "IllegalStateException";
        }
        return k < 0 || k >= scenario.size() ? "IllegalArgumentException" : "" + scenario.get(k);
    }

    String ways(int a, int b) {
        if (!areSlots(a, b)) {
            return "IndexOutOfBoundsException";
        }
        return genes > 4 ? "UnsupportedOperationException" : "" + Model.ways(slots.get(a), slots.get(b));
    }

    String circle(int slot, int far) {
        if (!areSlots(slot)) {
            return "IndexOutOfBoundsException";
        }
        return genes > 4 ? "UnsupportedOperationException" : "" + Model.circle(slots.get(slot), far);
    }

    String median(int a, int b, int c) {
        if (!areSlots(a, b, c)) {
            return "IndexOutOfBoundsException";
        }
        if (genes > 4) {
            return "UnsupportedOperationException";
        }
        List<Integer> median = Model.median(slots.get(a), slots.get(b), slots.get(c));
        int sum = Model.sum(median, slots.get(a), slots.get(b), slots.get(c));
        set(4, median);
        return "" + sum;
    }
}
