/** Counts the answers of one test that are not as due, and helps to lay orders into slots. */
final class Check {
    private final String test;
    private int made = 0;
    private int wrong = 0;

    Check(String test) {
        this.test = test;
    }

    void same(String what, long got, long due) {
        made++;
        if (got != due) {
            wrong++;
            System.out.println(test + ": " + what + " answered " + got + ", due is " + due);
        }
    }

    void same(String what, String got, String due) {
        made++;
        if (!got.equals(due)) {
            wrong++;
            System.out.println(test + ": " + what + " answered " + got + ", due is " + due);
        }
    }

    void outOfBounds(String what, Runnable call) {
        same(what, thrownBy(call), "IndexOutOfBoundsException");
    }

    void illegalArgument(String what, Runnable call) {
        same(what, thrownBy(call), "IllegalArgumentException");
    }

    void illegalState(String what, Runnable call) {
        same(what, thrownBy(call), "IllegalStateException");
    }

    void unsupported(String what, Runnable call) {
        same(what, thrownBy(call), "UnsupportedOperationException");
    }

    void end() {
        System.out.println(test + ": " + made + " checks, " + wrong + " wrong");
        if (wrong != 0 || made == 0) {
            System.exit(1);
        }
    }

    static String thrownBy(Runnable call) {
        try {
            call.run();
            return "nothing";
        } catch (RuntimeException e) {
            return e.getClass().getSimpleName();
        }
    }

    /** The characters of a text as the longs that write takes. */
    static long[] packed(String text) {
        long[] longs = new long[(text.length() + 7) / 8];
        for (int at = 0; at < text.length(); at++) {
            longs[at / 8] |= (long) (text.charAt(at) & 255) << (8 * (at % 8));
        }
        return longs;
    }

    static int write(ReversalDesk desk, String text) {
        int answer = 0;
        for (long characters : packed(text)) {
            answer = desk.write(characters);
        }
        return answer;
    }

    /** Reads a text that is whole and right into a slot. */
    static void lay(ReversalDesk desk, int slot, String text) {
        desk.wipe();
        write(desk, text);
        if (desk.read(slot) != ReversalDesk.NONE) {
            throw new IllegalStateException("the test's own text is wrong: " + text);
        }
    }

    static ReversalDesk desk(int genes, String... orders) {
        ReversalDesk desk = new ReversalDesk();
        desk.genes(genes);
        for (int slot = 0; slot < orders.length; slot++) {
            lay(desk, slot, orders[slot]);
        }
        return desk;
    }

    static String order(ReversalDesk desk, int slot, int genes) {
        StringBuilder signed = new StringBuilder();
        for (int place = 0; place < genes; place++) {
            signed.append(place == 0 ? "" : " ").append(desk.gene(slot, place));
        }
        return signed.toString();
    }
}
