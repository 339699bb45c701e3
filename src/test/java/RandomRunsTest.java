import java.util.ArrayList;
import java.util.Collections;
import java.util.List;
import java.util.Random;
import java.util.function.Supplier;

/** All promises at once: long runs of calls, right and wrong ones mixed, against the model's desk. */
public final class RandomRunsTest {
    private static final Check CHECK = new Check("RandomRunsTest");
    private static final int RUNS = 400;
    // So many calls an object is used for.
    private static final int CALLS = 512;
    // An order is laid into a slot by a wipe, up to three writes and a read.
    private static final int CALLS_TO_LAY = 5;
    private static final String CHARACTERS = "  +-+-123456123412312107x";

    private final Random random;
    private final ReversalDesk desk = new ReversalDesk();
    private final ModelDesk model = new ModelDesk();
    private int genes = 4;
    private int called = 0;

    private RandomRunsTest(int seed) {
        random = new Random(seed);
    }

    public static void main(String[] args) {
        for (int seed = 0; seed < RUNS; seed++) {
            RandomRunsTest run = new RandomRunsTest(seed);
            while (run.called < CALLS) {
                run.call("run " + seed + ", call " + run.called);
            }
            CHECK.same("calls of run " + seed, run.called, CALLS);
        }
        CHECK.end();
    }

    private String answer(Supplier<Object> call) {
        called++;
        try {
            return "" + call.get();
        } catch (RuntimeException e) {
            return e.getClass().getSimpleName();
        }
    }

    private String done(Runnable call) {
        called++;
        String thrown = Check.thrownBy(call);
        return thrown.equals("nothing") ? "done" : thrown;
    }

    private int slot() {
        return random.nextInt(60) == 0 ? random.nextInt(9) - 2 : random.nextInt(5);
    }

    private int number(int bound) {
        return random.nextInt(12) == 0 ? random.nextInt(2 * bound + 4) - bound : random.nextInt(bound);
    }

    private long characters() {
        if (random.nextInt(20) == 0) {
            return random.nextLong();
        }
        long packed = 0;
        for (int at = random.nextInt(9); at > 0; at--) {
            packed = packed << 8 | CHARACTERS.charAt(random.nextInt(CHARACTERS.length()));
        }
        return packed;
    }

    /** An order of the right length with signs and blanks, sometimes with a character changed. */
    private String orderText() {
        List<Integer> numbers = new ArrayList<>(Model.plain(genes));
        Collections.shuffle(numbers, random);
        StringBuilder order = new StringBuilder();
        for (int gene : numbers) {
            order.append(new String[] {"", "+", "-", " ", " -"}[random.nextInt(5)]).append(gene);
        }
        if (random.nextInt(4) == 0) {
            order.setCharAt(random.nextInt(order.length()), CHARACTERS.charAt(random.nextInt(CHARACTERS.length())));
        }
        return order.toString();
    }

    private void call(String where) {
        int a = slot();
        int b = slot();
        int kind = random.nextInt(26);
        if (kind < 9) {
            callThatChanges(where, kind, a, b);
        } else {
            callThatAsks(where, kind, a, b);
        }
    }

    private void callThatChanges(String where, int kind, int a, int b) {
        int i = number(genes);
        int j = random.nextInt(4) == 0 ? number(genes) : Math.min(genes - 1, i + random.nextInt(genes));
        switch (kind) {
            case 0:
                if (random.nextInt(6) == 0) {
                    int n = number(7);
                    genes = n >= 1 && n <= 6 ? n : genes;
                    CHECK.same(where + " genes " + n, done(() -> desk.genes(n)), model.genes(n));
                }
                break;
            case 1:
                long characters = characters();
                CHECK.same(where + " write " + characters, answer(() -> desk.write(characters)), model.write(characters));
                break;
            case 2:
                if (called + CALLS_TO_LAY <= CALLS) {
                    callsThatLay(where, a);
                }
                break;
            case 3:
                CHECK.same(where + " read " + a, answer(() -> desk.read(a)), model.read(a));
                break;
            case 4:
                CHECK.same(where + " copy " + a + " " + b, done(() -> desk.copy(a, b)), model.copy(a, b));
                break;
            case 5:
                CHECK.same(where + " undo " + a, answer(() -> desk.undo(a)), model.undo(a));
                break;
            default:
                CHECK.same(where + " reverse " + a + " " + i + " " + j, done(() -> desk.reverse(a, i, j)), model.reverse(a, i, j));
                break;
        }
    }

    private void callsThatLay(String where, int slot) {
        CHECK.same(where + " wipe", answer(desk::wipe), model.wipe());
        for (long packed : Check.packed(orderText())) {
            CHECK.same(where + " write " + packed, answer(() -> desk.write(packed)), model.write(packed));
        }
        CHECK.same(where + " read " + slot, answer(() -> desk.read(slot)), model.read(slot));
    }

    private void callThatAsks(String where, int kind, int a, int b) {
        int k = number(8);
        String call = where + ", kind " + kind + ": " + a + " " + b + " " + k;
        switch (kind) {
            case 9: case 10: case 11:
                CHECK.same(call + " gene", answer(() -> desk.gene(a, k)), model.gene(a, k));
                break;
            case 12:
                CHECK.same(call + " distance", answer(() -> desk.distance(a, b)), model.distance(a, b));
                break;
            case 13: case 14: case 15:
                CHECK.same(call + " drawing", answer(() -> desk.drawing(a, b, k)), model.drawing(a, b, k));
                break;
            case 16: case 17:
                CHECK.same(call + " line", answer(() -> desk.line(a, b, k)), model.line(a, b, k));
                break;
            case 18: case 19:
                CHECK.same(call + " interval", answer(() -> desk.interval(a, b, k)), model.interval(a, b, k));
                break;
            case 20:
                CHECK.same(call + " scenario", answer(() -> desk.scenario(a, b)), model.scenario(a, b));
                break;
            case 21: case 22:
                CHECK.same(call + " step", answer(() -> desk.step(k)), model.step(k));
                break;
            case 23:
                CHECK.same(call + " ways", answer(() -> desk.ways(a, b)), model.ways(a, b));
                break;
            case 24:
                CHECK.same(call + " circle", answer(() -> desk.circle(a, k)), model.circle(a, k));
                break;
            default:
                int c = slot();
                CHECK.same(call + " median with " + c, answer(() -> desk.median(a, b, c)), model.median(a, b, c));
                break;
        }
    }
}
