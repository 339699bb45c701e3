/** A desk for signed orders of genes and the reversals that lead from one to another. */
public final class ReversalDesk {
    public static final int NONE = -1;

    private static final int SLOTS = 5;
    private static final int MEDIAN_SLOT = 4;
    private static final int FIRST_GENES = 4;
    private static final int MOST_GENES = 6;
    private static final int MOST_GENES_CHARTED = 4;
    // A hurdle has a cycle of its own, so the distance N + 1 - cycles + hurdles stays within N + 1.
    private static final int MOST_STEPS = MOST_GENES + 1;

    private int genesNow;
    private final Slot[] slots;
    private final Text text;
    private final Drawing sheet;
    private final Chart[] charts;
    private final int[] steps;
    private int stepCount;
    private final int[] signedPlaces;
    private final int[] relativeRow;
    private final int[] tried;

    public ReversalDesk() {
        genesNow = FIRST_GENES;
        slots = new Slot[SLOTS];
        for (int s = 0; s < SLOTS; s++) {
            slots[s] = new Slot();
        }
        text = new Text();
        sheet = new Drawing();
        charts = new Chart[MOST_GENES_CHARTED + 1];
        steps = new int[MOST_STEPS];
        stepCount = NONE;
        signedPlaces = new int[MOST_GENES + 1];
        relativeRow = new int[MOST_GENES];
        tried = new int[MOST_GENES];
    }

    public void genes(int n) throws IllegalArgumentException {
        if (n < 1 || n > MOST_GENES) {
            throw new IllegalArgumentException("genes are 1 to 6");
        }
        genesNow = n;
        for (int s = 0; s < SLOTS; s++) {
            slots[s].becomePlain();
        }
        stepCount = NONE;
    }

    public int write(long characters) {
        return text.add(characters);
    }

    public int wipe() {
        return text.empty();
    }

    public int read(int slot) throws IndexOutOfBoundsException {
        checkSlot(slot);
        // The text is read into a row apart: a text that is wrong further on leaves the slot alone.
        int wrong = text.parse(tried, genesNow);
        if (wrong == NONE) {
            slots[slot].become(tried);
            text.empty();
        }
        return wrong;
    }

    public int gene(int slot, int place) throws IndexOutOfBoundsException {
        checkSlot(slot);
        if (place < 0 || place >= genesNow) {
            throw new IndexOutOfBoundsException("no such place");
        }
        return slots[slot].order[place];
    }

    public void copy(int from, int to) throws IndexOutOfBoundsException {
        checkSlots(from, to);
        slots[to].become(slots[from].order);
    }

    public void reverse(int slot, int i, int j) throws IndexOutOfBoundsException {
        checkSlot(slot);
        if (i < 0 || j >= genesNow || i > j) {
            throw new IndexOutOfBoundsException("no such places");
        }
        slots[slot].turnAndKeep(i, j);
    }

    public boolean undo(int slot) throws IndexOutOfBoundsException {
        checkSlot(slot);
        return slots[slot].turnBack();
    }

    public int distance(int a, int b) throws IndexOutOfBoundsException {
        checkSlots(a, b);
        drawSlots(a, b);
        return sheet.fewestReversals();
    }

    public int drawing(int a, int b, int what) throws IndexOutOfBoundsException, IllegalArgumentException {
        checkSlots(a, b);
        if (what < 0 || what > 5) {
            throw new IllegalArgumentException("what is 0 to 5");
        }
        drawSlots(a, b);
        switch (what) {
            case 0:
                return sheet.countCycles();
            case 1:
                return sheet.countParts();
            case 2:
                return sheet.countBadParts();
            case 3:
                return sheet.countHurdles();
            case 4:
                return sheet.countOriented();
            default:
                return sheet.countBreakpoints();
        }
    }

    public int line(int a, int b, int k) throws IndexOutOfBoundsException, IllegalArgumentException {
        checkSlots(a, b);
        if (k < 0 || k > genesNow) {
            throw new IllegalArgumentException("no such gray line");
        }
        drawSlots(a, b);
        return 100 * sheet.lesserSpot[k] + sheet.greaterSpot[k];
    }

    public int interval(int a, int b, int k) throws IndexOutOfBoundsException {
        checkSlots(a, b);
        relate(slots[a].order, slots[b].order);
        int before = 0;
        for (int first = 0; first < genesNow; first++) {
            int least = Math.abs(relativeRow[first]);
            int greatest = least;
            for (int last = first + 1; last < genesNow; last++) {
                int number = Math.abs(relativeRow[last]);
                least = Math.min(least, number);
                greatest = Math.max(greatest, number);
                if (greatest - least == last - first) {
                    if (before == k) {
                        return 10 * first + last;
                    }
                    before++;
                }
            }
        }
        return NONE;
    }

    public int scenario(int a, int b) throws IndexOutOfBoundsException {
        checkSlots(a, b);
        drawSlots(a, b);
        int needed = sheet.fewestReversals();
        for (int k = 0; k < needed && k < MOST_STEPS; k++) {
            steps[k] = turnNearer(needed - k - 1);
        }
        stepCount = needed;
        return needed;
    }

    public int step(int k) throws IllegalStateException, IllegalArgumentException {
        if (stepCount == NONE) {
            throw new IllegalStateException("no scenario");
        }
        if (k < 0 || k >= stepCount) {
            throw new IllegalArgumentException("no such reversal");
        }
        return steps[k];
    }

    public long ways(int a, int b) throws IndexOutOfBoundsException, UnsupportedOperationException {
        checkSlots(a, b);
        Chart chart = chartNow();
        relate(slots[a].order, slots[b].order);
        return chart.waysToPlain(relativeRow);
    }

    public int circle(int slot, int distance) throws IndexOutOfBoundsException, UnsupportedOperationException {
        checkSlot(slot);
        // From every order the others lie alike: relative rows to any order are all orders, once each.
        return chartNow().countAt(distance);
    }

    public int median(int a, int b, int c) throws IndexOutOfBoundsException, UnsupportedOperationException {
        checkSlots(a, b);
        checkSlot(c);
        Chart chart = chartNow();
        int best = 0;
        int leastSum = Integer.MAX_VALUE;
        // The chart has lesser orders first, so the first one with the least sum is the median.
        for (int index = 0; index < chart.orders; index++) {
            chart.layOut(index, tried);
            int sum = triedTo(a, chart) + triedTo(b, chart) + triedTo(c, chart);
            if (sum < leastSum) {
                leastSum = sum;
                best = index;
            }
        }
        chart.layOut(best, tried);
        slots[MEDIAN_SLOT].become(tried);
        return leastSum;
    }

    private static void checkSlot(int slot) {
        if (slot < 0 || slot >= SLOTS) {
            throw new IndexOutOfBoundsException("slots are 0 to 4");
        }
    }

    private static void checkSlots(int a, int b) {
        checkSlot(a);
        checkSlot(b);
    }

    private void drawSlots(int a, int b) {
        relate(slots[a].order, slots[b].order);
        sheet.draw(relativeRow, genesNow);
    }

    private void relate(int[] first, int[] second) {
        for (int q = 0; q < genesNow; q++) {
            int x = second[q];
            signedPlaces[Math.abs(x)] = x > 0 ? q + 1 : -q - 1;
        }
        for (int p = 0; p < genesNow; p++) {
            int x = first[p];
            relativeRow[p] = x > 0 ? signedPlaces[x] : -signedPlaces[-x];
        }
    }

    /** Leaves the relative row turned by the first reversal after which so many are left. */
    private int turnNearer(int left) {
        for (int i = 0; i < genesNow; i++) {
            for (int j = i; j < genesNow; j++) {
                turn(relativeRow, i, j);
                sheet.draw(relativeRow, genesNow);
                if (sheet.fewestReversals() == left) {
                    return 10 * i + j;
                }
                turn(relativeRow, i, j);
            }
        }
        return NONE;
    }

    private Chart chartNow() {
        if (genesNow > MOST_GENES_CHARTED) {
            throw new UnsupportedOperationException("not with 5 or 6 genes");
        }
        // Made when first asked for and kept: a chart costs more than all that is asked of it.
        if (charts[genesNow] == null) {
            charts[genesNow] = new Chart(genesNow);
            charts[genesNow].measure(sheet);
        }
        return charts[genesNow];
    }

    private int triedTo(int slot, Chart chart) {
        relate(tried, slots[slot].order);
        return chart.toPlain[chart.indexOf(relativeRow)];
    }

    private static void turn(int[] row, int i, int j) {
        int left = i;
        int right = j;
        while (left <= right) {
            int moved = row[left];
            row[left] = -row[right];
            row[right] = -moved;
            left++;
            right--;
        }
    }

    /** An order and its latest reversals. */
    private static final class Slot {
        static final int MOST_KEPT = 8;

        final int[] order = new int[MOST_GENES];
        private final int[] firstPlaces = new int[MOST_KEPT];
        private final int[] lastPlaces = new int[MOST_KEPT];
        private int kept;

        Slot() {
            becomePlain();
        }

        void becomePlain() {
            for (int p = 0; p < MOST_GENES; p++) {
                order[p] = p + 1;
            }
            kept = 0;
        }

        void become(int[] row) {
            System.arraycopy(row, 0, order, 0, MOST_GENES);
            kept = 0;
        }

        void turnAndKeep(int i, int j) {
            turn(order, i, j);
            if (kept == MOST_KEPT) {
                System.arraycopy(firstPlaces, 1, firstPlaces, 0, MOST_KEPT - 1);
                System.arraycopy(lastPlaces, 1, lastPlaces, 0, MOST_KEPT - 1);
                kept--;
            }
            firstPlaces[kept] = i;
            lastPlaces[kept] = j;
            kept++;
        }

        boolean turnBack() {
            if (kept == 0) {
                return false;
            }
            kept--;
            turn(order, firstPlaces[kept], lastPlaces[kept]);
            return true;
        }
    }

    /** The characters that wait to be read. */
    private static final class Text {
        static final int MOST_CHARACTERS = 24;
        static final int LONG_BYTES = 8;

        private final int[] characters = new int[MOST_CHARACTERS];
        private int length;

        int add(long bytes) {
            int more = 0;
            for (int k = 0; k < LONG_BYTES; k++) {
                if (byteAt(bytes, k) != 0) {
                    more++;
                }
            }
            if (length + more > MOST_CHARACTERS) {
                return NONE;
            }
            for (int k = 0; k < LONG_BYTES; k++) {
                int character = byteAt(bytes, k);
                if (character != 0) {
                    characters[length] = character;
                    length++;
                }
            }
            return length;
        }

        private static int byteAt(long bytes, int k) {
            return (int) (bytes >>> (8 * k)) & 255;
        }

        int empty() {
            int had = length;
            length = 0;
            return had;
        }

        /** Fills a row with n genes; answers the place of the first wrong character, or NONE. */
        int parse(int[] row, int n) {
            int found = 0;
            int used = 0;
            int sign = 0;
            for (int at = 0; at < length; at++) {
                int character = characters[at];
                if (character == ' ' && sign == 0) {
                    continue;
                }
                if (found == n) {
                    return at;
                }
                if (sign == 0 && (character == '+' || character == '-')) {
                    sign = character == '+' ? 1 : -1;
                    continue;
                }
                int number = character - '0';
                if (number < 1 || number > n || (used >> number & 1) == 1) {
                    return at;
                }
                row[found] = sign < 0 ? -number : number;
                found++;
                used |= 1 << number;
                sign = 0;
            }
            return found == n ? NONE : length;
        }
    }

    /** The drawing of two orders over each other, of their relative row. */
    private static final class Drawing {
        static final int MOST_SPOTS = 2 * MOST_GENES + 2;
        static final int MOST_LINES = MOST_GENES + 1;

        final int[] lesserSpot = new int[MOST_LINES];
        final int[] greaterSpot = new int[MOST_LINES];
        private int lines;
        private int spots;
        private final int[] framedRow = new int[MOST_GENES + 2];
        private final int[] endAt = new int[MOST_SPOTS];
        private final int[] spotOf = new int[MOST_SPOTS];
        private final boolean[] seen = new boolean[MOST_SPOTS];
        // A part bears the number of its least gray line.
        private final int[] partOf = new int[MOST_LINES];
        private final boolean[] bad = new boolean[MOST_LINES];
        private final int[] badAround = new int[MOST_SPOTS];

        void draw(int[] row, int n) {
            lines = n + 1;
            spots = 2 * n + 2;
            framedRow[0] = 0;
            framedRow[n + 1] = n + 1;
            putEnd(0, 0);
            putEnd(2 * n + 1, 2 * n + 1);
            for (int p = 0; p < n; p++) {
                int y = row[p];
                framedRow[p + 1] = y;
                putEnd(y > 0 ? 2 * y - 1 : -2 * y, 2 * p + 1);
                putEnd(y > 0 ? 2 * y : -2 * y - 1, 2 * p + 2);
            }
            for (int k = 0; k < lines; k++) {
                lesserSpot[k] = Math.min(spotOf[2 * k], spotOf[2 * k + 1]);
                greaterSpot[k] = Math.max(spotOf[2 * k], spotOf[2 * k + 1]);
            }
            joinParts();
            markBadParts();
        }

        private void putEnd(int end, int spot) {
            endAt[spot] = end;
            spotOf[end] = spot;
        }

        private void joinParts() {
            for (int k = 0; k < lines; k++) {
                partOf[k] = k;
            }
            for (int k = 0; k < lines; k++) {
                for (int m = k + 1; m < lines; m++) {
                    if (partOf[k] != partOf[m] && isCrossing(k, m)) {
                        unite(partOf[k], partOf[m]);
                    }
                }
            }
        }

        private boolean isCrossing(int k, int m) {
            return isWithin(lesserSpot[m], k) != isWithin(greaterSpot[m], k);
        }

        private boolean isWithin(int spot, int k) {
            return lesserSpot[k] < spot && spot < greaterSpot[k];
        }

        private void unite(int one, int other) {
            int kept = Math.min(one, other);
            int given = Math.max(one, other);
            for (int k = 0; k < lines; k++) {
                if (partOf[k] == given) {
                    partOf[k] = kept;
                }
            }
        }

        private boolean isOriented(int k) {
            return (lesserSpot[k] + greaterSpot[k]) % 2 == 0;
        }

        private boolean isShort(int k) {
            return greaterSpot[k] == lesserSpot[k] + 1 && lesserSpot[k] % 2 == 0;
        }

        private void markBadParts() {
            for (int k = 0; k < lines; k++) {
                // Nothing lies within a short line, so it crosses none and is always alone.
                bad[k] = partOf[k] == k && !isShort(k);
            }
            for (int k = 0; k < lines; k++) {
                if (isOriented(k)) {
                    bad[partOf[k]] = false;
                }
            }
        }

        int countCycles() {
            for (int spot = 0; spot < spots; spot++) {
                seen[spot] = false;
            }
            int count = 0;
            for (int spot = 0; spot < spots; spot++) {
                if (!seen[spot]) {
                    walkCycle(spot);
                    count++;
                }
            }
            return count;
        }

        private void walkCycle(int start) {
            int spot = start;
            for (int k = 0; k < lines && !seen[spot]; k++) {
                int behindBlack = spot ^ 1;
                seen[spot] = true;
                seen[behindBlack] = true;
                spot = spotOf[endAt[behindBlack] ^ 1];
            }
        }

        int countParts() {
            int count = 0;
            for (int k = 0; k < lines; k++) {
                if (partOf[k] == k) {
                    count++;
                }
            }
            return count;
        }

        int countBadParts() {
            int count = 0;
            for (int k = 0; k < lines; k++) {
                if (bad[k]) {
                    count++;
                }
            }
            return count;
        }

        int countHurdles() {
            int around = writeBadAround();
            int count = 0;
            for (int k = 0; k < lines; k++) {
                if (bad[k] && countRunEnds(k, around) <= 1) {
                    count++;
                }
            }
            return count;
        }

        private int writeBadAround() {
            int around = 0;
            for (int spot = 0; spot < spots; spot++) {
                int part = partOf[endAt[spot] / 2];
                if (bad[part]) {
                    badAround[around] = part;
                    around++;
                }
            }
            return around;
        }

        /** How often one leaves a part on the way round: never if it is the only one. */
        private int countRunEnds(int part, int around) {
            int count = 0;
            for (int at = 0; at < around; at++) {
                int next = at + 1 < around ? at + 1 : 0;
                if (badAround[at] == part && badAround[next] != part) {
                    count++;
                }
            }
            return count;
        }

        int countOriented() {
            int count = 0;
            for (int k = 0; k < lines; k++) {
                if (isOriented(k)) {
                    count++;
                }
            }
            return count;
        }

        int countBreakpoints() {
            int count = 0;
            for (int i = 0; i < lines; i++) {
                if (framedRow[i + 1] != framedRow[i] + 1) {
                    count++;
                }
            }
            return count;
        }

        /**
         * The theorem of Hannenhalli and Pevzner. Its one further case, the fortress, needs three
         * hurdles at least; a bad part has three gray lines or more, so six genes have two at most.
         */
        int fewestReversals() {
            return lines - countCycles() + countHurdles();
        }
    }

    /** All orders of n genes, lesser ones first: how far each is from the plain one, and in how many ways. */
    private static final class Chart {
        final int orders;
        final int[] toPlain;
        private final int genes;
        private final int[] walked;
        // 0 where it was not asked for yet: there is always one way at least.
        private final long[] knownWays;

        Chart(int n) {
            genes = n;
            int count = 1;
            for (int m = 1; m <= n; m++) {
                count *= 2 * m;
            }
            orders = count;
            toPlain = new int[count];
            knownWays = new long[count];
            walked = new int[MOST_GENES];
        }

        void measure(Drawing sheet) {
            for (int index = 0; index < orders; index++) {
                layOut(index, walked);
                sheet.draw(walked, genes);
                toPlain[index] = sheet.fewestReversals();
            }
        }

        /**
         * An index has one digit a place, the first place's weighing most: which of the signed
         * genes that are left, from the least, stands there.
         */
        int indexOf(int[] row) {
            int index = 0;
            for (int p = 0; p < genes; p++) {
                int left = genes - p;
                int lesser = 0;
                for (int q = p + 1; q < genes; q++) {
                    if (Math.abs(row[q]) < Math.abs(row[p])) {
                        lesser++;
                    }
                }
                int digit = row[p] > 0 ? left + lesser : left - 1 - lesser;
                index = index * 2 * left + digit;
            }
            return index;
        }

        void layOut(int index, int[] row) {
            int rest = index;
            for (int p = genes - 1; p >= 0; p--) {
                int left = genes - p;
                int digit = rest % (2 * left);
                rest /= 2 * left;
                row[p] = digit < left ? digit - left : digit - left + 1;
                makeRoom(row, p);
            }
        }

        /** The genes behind a place were numbered among themselves: those from its number on move up. */
        private void makeRoom(int[] row, int place) {
            for (int q = place + 1; q < genes; q++) {
                if (Math.abs(row[q]) >= Math.abs(row[place])) {
                    row[q] += row[q] > 0 ? 1 : -1;
                }
            }
        }

        int countAt(int far) {
            int count = 0;
            for (int index = 0; index < orders; index++) {
                if (toPlain[index] == far) {
                    count++;
                }
            }
            return count;
        }

        long waysToPlain(int[] row) {
            System.arraycopy(row, 0, walked, 0, genes);
            int index = indexOf(walked);
            return waysOfWalked(index, toPlain[index]);
        }

        /** Each level is one reversal nearer to the plain order; it leaves the walked row as it was. */
        private long waysOfWalked(int index, int far) {
            if (far <= 0) {
                return 1;
            }
            if (knownWays[index] == 0) {
                long sum = 0;
                for (int i = 0; i < genes; i++) {
                    for (int j = i; j < genes; j++) {
                        turn(walked, i, j);
                        int next = indexOf(walked);
                        if (toPlain[next] == far - 1) {
                            sum += waysOfWalked(next, far - 1);
                        }
                        turn(walked, i, j);
                    }
                }
                knownWays[index] = sum;
            }
            return knownWays[index];
        }
    }
}
