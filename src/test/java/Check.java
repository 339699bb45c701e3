/** Counts the answers of one test that are not as due, and helps to lay orders into slots. */
final class Check {
    private final String test;
    private String sentence = "";
    private int madeForSentence = 1;
    private int made = 0;
    private int wrong = 0;

    Check(String test) {
        this.test = test;
    }

    /** What is checked from here on is checked for a sentence of the document; none goes without a check. */
    void sentence(String quoted) {
        endSentence();
        sentence = quoted;
        madeForSentence = 0;
    }

    private void endSentence() {
        if (madeForSentence == 0) {
            wrong++;
            System.out.println(test + ": nothing is checked for " + sentence);
        }
    }

    private void count(boolean right, String what, Object got, Object due) {
        made++;
        madeForSentence++;
        if (!right) {
            wrong++;
            String where = sentence.isEmpty() ? "" : " [" + sentence + "]";
            System.out.println(test + where + ": " + what + " answered " + got + ", due is " + due);
        }
    }

    void same(String what, long got, long due) {
        count(got == due, what, got, due);
    }

    void same(String what, String got, String due) {
        count(got.equals(due), what, got, due);
    }

    void yes(String what, boolean got) {
        count(got, what, got, true);
    }

    void no(String what, boolean got) {
        count(!got, what, got, false);
    }

    void outOfBounds(String what, Runnable call) {
        same(what, thrownBy(call), "IndexOutOfBoundsException");
    }

    void illegalArgument(String what, Runnable call) {
        same(what, thrownBy(call), "IllegalArgumentException");
    }

    void illegalState(String what, Runnable call) {
        same(what, thrownBy(call), "IllegalStateException");
    }

    void unsupported(String what, Runnable call) {
        same(what, thrownBy(call), "UnsupportedOperationException");
    }

    void end() {
        endSentence();
        System.out.println(test + ": " + made + " checks, " + wrong + " wrong");
        if (wrong != 0 || made == 0) {
            System.exit(1);
        }
    }

    static String thrownBy(Runnable call) {
        try {
            call.run();
            return "nothing";
        } catch (RuntimeException e) {
            return e.getClass().getSimpleName();
        }
    }

    /** The characters of a text as the longs that write takes. */
    static long[] packed(String text) {
        long[] longs = new long[(text.length() + 7) / 8];
        for (int at = 0; at < text.length(); at++) {
            longs[at / 8] |= (long) (text.charAt(at) & 255) << (8 * (at % 8));
        }
        return longs;
    }

    static int write(ReversalDesk desk, String text) {
        int answer = 0;
        for (long characters : packed(text)) {
            answer = desk.write(characters);
        }
        return answer;
    }

    /** Reads a text that is whole and right into a slot. */
    static void lay(ReversalDesk desk, int slot, String text) {
        desk.wipe();
        write(desk, text);
        if (desk.read(slot) != ReversalDesk.NONE) {
            throw new IllegalStateException("the test's own text is wrong: " + text);
        }
    }

    static ReversalDesk desk(int genes, String... orders) {
        ReversalDesk desk = new ReversalDesk();
        desk.genes(genes);
        for (int slot = 0; slot < orders.length; slot++) {
            lay(desk, slot, orders[slot]);
        }
        return desk;
    }

    static String order(ReversalDesk desk, int slot, int genes) {
        StringBuilder signed = new StringBuilder();
        for (int place = 0; place < genes; place++) {
            signed.append(place == 0 ? "" : " ").append(desk.gene(slot, place));
        }
        return signed.toString();
    }
}
