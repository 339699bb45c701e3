import java.util.ArrayDeque;
import java.util.ArrayList;
import java.util.Collections;
import java.util.Comparator;
import java.util.HashMap;
import java.util.HashSet;
import java.util.List;
import java.util.Map;
import java.util.Set;

/** The document once more, slow and plain: distances by search through all orders, drawings by lists and sets. */
final class Model {
    static final Comparator<List<Integer>> LESS = (one, other) -> {
        for (int place = 0; place < one.size(); place++) {
            int found = Integer.compare(one.get(place), other.get(place));
            if (found != 0) {
                return found;
            }
        }
        return 0;
    };

    private static final Map<List<Integer>, Map<List<Integer>, Integer>> DISTANCES = new HashMap<>();

    private Model() {
    }

    static List<Integer> plain(int genes) {
        List<Integer> order = new ArrayList<>();
        for (int gene = 1; gene <= genes; gene++) {
            order.add(gene);
        }
        return order;
    }

    static List<Integer> reversed(List<Integer> order, int i, int j) {
        List<Integer> result = new ArrayList<>(order);
        for (int place = i; place <= j; place++) {
            result.set(place, -order.get(i + j - place));
        }
        return result;
    }

    static List<List<Integer>> neighbours(List<Integer> order) {
        List<List<Integer>> result = new ArrayList<>();
        for (int i = 0; i < order.size(); i++) {
            for (int j = i; j < order.size(); j++) {
                result.add(reversed(order, i, j));
            }
        }
        return result;
    }

    /** The distances of all orders from one, by breadth-first search. */
    static Map<List<Integer>, Integer> distancesFrom(List<Integer> start) {
        Map<List<Integer>, Integer> known = DISTANCES.get(start);
        if (known != null) {
            return known;
        }
        Map<List<Integer>, Integer> found = new HashMap<>();
        ArrayDeque<List<Integer>> waiting = new ArrayDeque<>();
        found.put(start, 0);
        waiting.add(start);
        while (!waiting.isEmpty()) {
            List<Integer> order = waiting.remove();
            for (List<Integer> next : neighbours(order)) {
                if (found.putIfAbsent(next, found.get(order) + 1) == null) {
                    waiting.add(next);
                }
            }
        }
        DISTANCES.put(start, found);
        return found;
    }

    static List<List<Integer>> allOrders(int genes) {
        List<List<Integer>> orders = new ArrayList<>(distancesFrom(plain(genes)).keySet());
        orders.sort(LESS);
        return orders;
    }

    static int distance(List<Integer> first, List<Integer> second) {
        // A search from each of the orders of five or six genes would be too much: there, names are changed instead.
        if (first.size() > 4) {
            return distancesFrom(plain(first.size())).get(relative(first, second));
        }
        return distancesFrom(second).get(first);
    }

    static List<Integer> relative(List<Integer> first, List<Integer> second) {
        List<Integer> row = new ArrayList<>();
        for (int gene : first) {
            int same = second.indexOf(gene);
            row.add(same >= 0 ? same + 1 : -(second.indexOf(-gene) + 1));
        }
        return row;
    }

    static List<Integer> ends(List<Integer> row) {
        List<Integer> ends = new ArrayList<>();
        ends.add(0);
        for (int y : row) {
            int size = Math.abs(y);
            ends.add(y > 0 ? 2 * size - 1 : 2 * size);
            ends.add(y > 0 ? 2 * size : 2 * size - 1);
        }
        ends.add(2 * row.size() + 1);
        return ends;
    }

    /** The spots of each gray line, the lesser first. */
    static List<int[]> grayLines(List<Integer> row) {
        List<Integer> ends = ends(row);
        List<int[]> lines = new ArrayList<>();
        for (int k = 0; k <= row.size(); k++) {
            int one = ends.indexOf(2 * k);
            int other = ends.indexOf(2 * k + 1);
            lines.add(new int[] {Math.min(one, other), Math.max(one, other)});
        }
        return lines;
    }

    static int cycles(List<Integer> row) {
        List<int[]> joined = new ArrayList<>(grayLines(row));
        for (int i = 0; i <= row.size(); i++) {
            joined.add(new int[] {2 * i, 2 * i + 1});
        }
        int[] ring = new int[2 * row.size() + 2];
        for (int spot = 0; spot < ring.length; spot++) {
            ring[spot] = spot;
        }
        for (int round = 0; round < ring.length; round++) {
            for (int[] line : joined) {
                int least = Math.min(ring[line[0]], ring[line[1]]);
                ring[line[0]] = least;
                ring[line[1]] = least;
            }
        }
        Set<Integer> rings = new HashSet<>();
        for (int least : ring) {
            rings.add(least);
        }
        return rings.size();
    }

    static boolean cross(int[] one, int[] other) {
        int between = 0;
        for (int spot : other) {
            if (one[0] < spot && spot < one[1]) {
                between++;
            }
        }
        return between == 1;
    }

    static List<Set<Integer>> parts(List<Integer> row) {
        List<int[]> lines = grayLines(row);
        List<Set<Integer>> parts = new ArrayList<>();
        Set<Integer> placed = new HashSet<>();
        for (int k = 0; k < lines.size(); k++) {
            if (placed.contains(k)) {
                continue;
            }
            Set<Integer> part = new HashSet<>();
            ArrayDeque<Integer> waiting = new ArrayDeque<>();
            waiting.add(k);
            while (!waiting.isEmpty()) {
                int line = waiting.remove();
                if (part.add(line)) {
                    for (int other = 0; other < lines.size(); other++) {
                        if (cross(lines.get(line), lines.get(other))) {
                            waiting.add(other);
                        }
                    }
                }
            }
            placed.addAll(part);
            parts.add(part);
        }
        return parts;
    }

    static boolean isOriented(int[] line) {
        return (line[0] + line[1]) % 2 == 0;
    }

    static List<Set<Integer>> badParts(List<Integer> row) {
        List<int[]> lines = grayLines(row);
        List<Set<Integer>> bad = new ArrayList<>();
        for (Set<Integer> part : parts(row)) {
            boolean oriented = false;
            boolean shortAlone = false;
            for (int k : part) {
                int[] line = lines.get(k);
                oriented |= isOriented(line);
                shortAlone |= part.size() == 1 && line[1] == line[0] + 1 && line[0] % 2 == 0;
            }
            if (!oriented && !shortAlone) {
                bad.add(part);
            }
        }
        return bad;
    }

    static int hurdles(List<Integer> row) {
        List<Set<Integer>> bad = badParts(row);
        List<Integer> written = new ArrayList<>();
        for (int end : ends(row)) {
            for (int part = 0; part < bad.size(); part++) {
                if (bad.get(part).contains(end / 2)) {
                    written.add(part);
                }
            }
        }
        int hurdles = 0;
        for (int part = 0; part < bad.size(); part++) {
            if (standsTogether(written, part)) {
                hurdles++;
            }
        }
        return hurdles;
    }

    /** Whether the row can be started somewhere so that all of one part comes first. */
    private static boolean standsTogether(List<Integer> written, int part) {
        int size = Collections.frequency(written, part);
        for (int start = 0; start < written.size(); start++) {
            List<Integer> from = new ArrayList<>(written);
            Collections.rotate(from, start);
            if (Collections.frequency(from.subList(0, size), part) == size) {
                return true;
            }
        }
        return false;
    }

    static int breakpoints(List<Integer> row) {
        List<Integer> framed = new ArrayList<>(row);
        framed.add(0, 0);
        framed.add(row.size() + 1);
        int count = 0;
        for (int i = 0; i <= row.size(); i++) {
            if (framed.get(i + 1) - framed.get(i) != 1) {
                count++;
            }
        }
        return count;
    }

    static int drawing(List<Integer> first, List<Integer> second, int what) {
        List<Integer> row = relative(first, second);
        switch (what) {
            case 0: return cycles(row);
            case 1: return parts(row).size();
            case 2: return badParts(row).size();
            case 3: return hurdles(row);
            case 4: return (int) grayLines(row).stream().filter(Model::isOriented).count();
            default: return breakpoints(row);
        }
    }

    static List<Integer> intervals(List<Integer> first, List<Integer> second) {
        Set<Set<Integer>> seen = new HashSet<>();
        for (int from = 0; from < second.size(); from++) {
            for (int to = from; to < second.size(); to++) {
                seen.add(unsigned(second.subList(from, to + 1)));
            }
        }
        List<Integer> result = new ArrayList<>();
        for (int from = 0; from < first.size(); from++) {
            for (int to = from + 1; to < first.size(); to++) {
                if (seen.contains(unsigned(first.subList(from, to + 1)))) {
                    result.add(10 * from + to);
                }
            }
        }
        return result;
    }

    private static Set<Integer> unsigned(List<Integer> genes) {
        Set<Integer> numbers = new HashSet<>();
        for (int gene : genes) {
            numbers.add(Math.abs(gene));
        }
        return numbers;
    }

    static List<Integer> scenario(List<Integer> first, List<Integer> second) {
        List<Integer> steps = new ArrayList<>();
        List<Integer> order = first;
        while (!order.equals(second)) {
            int far = distance(order, second);
            List<Integer> next = null;
            for (int i = 0; i < order.size() && next == null; i++) {
                for (int j = i; j < order.size() && next == null; j++) {
                    List<Integer> turned = reversed(order, i, j);
                    if (distance(turned, second) < far) {
                        next = turned;
                        steps.add(10 * i + j);
                    }
                }
            }
            order = next;
        }
        return steps;
    }

    /** Counts from the first order on, one reversal at a time, all runs of as many reversals as the distance. */
    static long ways(List<Integer> first, List<Integer> second) {
        Map<List<Integer>, Long> reached = Map.of(first, 1L);
        for (int k = distance(first, second); k > 0; k--) {
            Map<List<Integer>, Long> next = new HashMap<>();
            for (Map.Entry<List<Integer>, Long> entry : reached.entrySet()) {
                for (List<Integer> order : neighbours(entry.getKey())) {
                    next.merge(order, entry.getValue(), Long::sum);
                }
            }
            reached = next;
        }
        return reached.get(second);
    }

    static int circle(List<Integer> order, int far) {
        return Collections.frequency(distancesFrom(order).values(), far);
    }

    static List<Integer> median(List<Integer> a, List<Integer> b, List<Integer> c) {
        List<Integer> best = null;
        for (List<Integer> order : distancesFrom(a).keySet()) {
            int gain = best == null ? -1 : Integer.compare(sum(order, a, b, c), sum(best, a, b, c));
            if (gain < 0 || gain == 0 && LESS.compare(order, best) < 0) {
                best = order;
            }
        }
        return best;
    }

    static int sum(List<Integer> order, List<Integer> a, List<Integer> b, List<Integer> c) {
        return distance(order, a) + distance(order, b) + distance(order, c);
    }
}
