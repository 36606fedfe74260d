import java.util.Random;

/**
 * Runs of just 512 calls on one object, each answer compared with PlainBook's. RandomRunsTest looks at all there is
 * behind each call, and so comes to fewer changes; here most calls change or ask something.
 */
public final class LongRunsTest {
    private static final int RUNS_OF_EACH = 60;
    // digest() and status(0) to status(2) end each run.
    private static final int LAST_CALLS = 4;

    /**
     * Each call with what its numbers may be: w WIDE, k KIND, a ARM, t TALL, r ROW, n ON, c a byte, o an opening,
     * O 0 or 12, the farther one, i a PIECE, p a TAB, x ROSE, b PIECES as bits, g which one (NONE .. 14), s SEED,
     * m READERS, d ODDS, a figure: 0 to it.
     */
    private static final String[] EVERY = {"book w", "piece k a t r n", "type c", "clear", "read", "opens o",
        "pulls i p", "tears i", "undo", "of i 7", "gives i o 2", "height i o", "seen o", "first i", "best 1", "out 1",
        "tour b g", "place i o 1", "lasts", "turns i 1", "note i t o p x", "stood o b", "forget 1", "is i", "look i",
        "where i 1", "seats g", "sticks o d", "readers s m", "part 1", "image 1", "from 1", "status 2", "count 9",
        "digest"};
    private static final String[] WEARING = {"opens O", "opens O", "opens O", "opens O", "opens O", "opens o",
        "opens o", "seen o", "height i o", "of i 7", "lasts", "readers s m", "sticks o d", "first i", "tour b g",
        "turns i 1", "place i o 1", "seats g", "best 1", "count 9", "where i 1"};
    private static final String[] TEARING = {"piece k a t r n", "piece k a t r n", "piece k a t r n", "tears i", "undo",
        "undo", "undo", "opens o", "opens o", "opens o", "pulls i p", "pulls i p", "pulls i p", "image 1", "from 1",
        "out 1", "of i 7", "count 9", "note i t o p x", "stood o b", "digest"};
    private static final String[] GUESSING = {"note i t o p x", "stood o b", "is i", "look i", "where i 1", "where i 1",
        "forget 1", "opens o", "pulls i p", "seen o", "count 9", "image 1", "from 1"};

    private static final int[] ODD_ONES = {Integer.MIN_VALUE, Integer.MIN_VALUE + 1, -129, 21, 31, 32, 33, 41, 61, 64,
        128, 169, 256, 1000000, 1 << 30, Integer.MAX_VALUE - 1, Integer.MAX_VALUE};

    private final Random random;
    private final Pair pair;

    private LongRunsTest(String name, long seed) {
        random = new Random(seed);
        pair = new Pair(name + " " + seed);
    }

    public static void main(String[] args) {
        for (int seed = 0; seed < RUNS_OF_EACH; seed++) {
            new LongRunsTest("every call", seed).run(0, EVERY);
            new LongRunsTest("every call in a full book", seed).run(7, EVERY);
            new LongRunsTest("wearing", seed).run(1 + seed % 7, WEARING);
            new LongRunsTest("tearing", seed).run(3, TEARING);
            new LongRunsTest("guessing", seed).run(1 + seed % 7, GUESSING);
        }
    }

    private void run(int pieces, String[] calls) {
        for (int n = 0; n < pieces; n++) {
            one("piece k a t r n", false);
        }
        while (pair.callsLeft() > LAST_CALLS) {
            one(calls[random.nextInt(calls.length)], random.nextInt(15) == 0);
        }
        pair.callForAll();
        if (pair.callsLeft() != 0) {
            throw new IllegalStateException("a run that is no whole one");
        }
    }

    private void one(String told, boolean oddly) {
        String[] parts = told.split(" ");
        int[] numbers = new int[parts.length - 1];
        for (int n = 0; n < numbers.length; n++) {
            numbers[n] = some(parts[n + 1].charAt(0));
        }
        if (parts[0].equals("note") && random.nextInt(4) > 0) {
            numbers[4] = PlainBook.rise(random.nextInt(6), numbers[1], numbers[2], numbers[3]);
        } else if (parts[0].equals("stood") && random.nextInt(4) > 0) {
            numbers[1] = pair.plainSeen(numbers[0]);
        }
        if (oddly && numbers.length > 0) {
            numbers[random.nextInt(numbers.length)] = oddOne();
        }
        pair.call(parts[0], numbers);
    }

    /** As told or not: mostly near the bounds that most numbers have. */
    private int oddOne() {
        return random.nextInt(3) > 0 ? from(-11, 14) : ODD_ONES[random.nextInt(ODD_ONES.length)];
    }

    private int some(char sort) {
        int pieces = pair.plainCount(0);
        switch (sort) {
            case 'w': return from(6, 40);
            case 'k': return from(0, 5);
            case 'a': case 't': return from(1, 9);
            case 'r': return from(0, 9);
            case 'n': return from(-1, pieces - 1);
            case 'c': return from(0, 127);
            case 'o': return from(0, 12);
            case 'O': return pair.plainCount(1) < 6 ? 12 : 0;
            case 'i': return from(0, pieces - 1);
            case 'p': return from(0, 3);
            case 'x': return from(0, 20);
            // Few pieces more often than many: of many one is mostly seen nowhere.
            case 'b': return from(0, (1 << pieces) - 1) & from(0, (1 << pieces) - 1);
            case 'g': return from(-1, 14);
            case 's': return from(0, 999999);
            case 'm': return from(0, 60);
            case 'd': return from(0, 10);
            default: return from(0, sort - '0');
        }
    }

    private int from(int low, int high) {
        return high < low ? low : low + random.nextInt(high - low + 1);
    }
}
