import java.util.Random;

/** Random runs of calls on the class and on PlainBook: each answer, and what there is behind it, must be the same. */
public final class RandomRunsTest {
    private static final int RUNS = 600;
    // An object is promised for 512 calls; one step types a text of 150 bytes at most and then looks at all.
    private static final int LAST_STEP_BEFORE = 512 - 160;
    private static final String[] ITEMS = {"piece 0 3 5 2;", "on 4 2 7 1 0;", "open 12;", "pull 0 2;", "open 3;",
        "piece 5 1 9 0;", "on 2 9 9 9 1;", "book 7;", "piece 6 1 1 1;", "open 013;", "pull 1 4;", "on 1 1 1 1 5;",
        "open 1", ";", "x", "-", "piece3 4 5 6;", "pulls 0 1;", "  ", "on 1 1 4 3 0;", "piece 2 3 8 4 ;", "open 0;"};

    private final Random random;
    private final StandUpBook mine = new StandUpBook();
    private final PlainBook plain = new PlainBook();
    private final StringBuilder calls = new StringBuilder();
    private int pieces = 0;
    private int callsMade = 0;

    private RandomRunsTest(long seed) {
        random = new Random(seed);
    }

    public static void main(String[] args) {
        for (int run = 0; run < RUNS; run++) {
            RandomRunsTest test = new RandomRunsTest(run);
            while (test.callsMade < LAST_STEP_BEFORE) {
                if (!test.step(run) || !test.sameBehind(run)) {
                    System.exit(1);
                }
            }
        }
    }

    private boolean sameBehind(int run) {
        boolean right = same(run, "digest()", mine.digest(), plain.digest());
        for (int what = 0; right && what < 3; what++) {
            right = same(run, "status(" + what + ")", mine.status(what), plain.status(what));
        }
        return right;
    }

    private boolean same(int run, String call, long got, long want) {
        callsMade++;
        calls.append(call).append(" = ").append(got).append('\n');
        if (got != want) {
            System.out.println(calls);
            System.out.println("run " + run + ": " + call + " answered " + got + ", due is " + want);
        }
        return got == want;
    }

    /** Mostly from low to high, now and then just outside. */
    private int some(int low, int high) {
        int odd = random.nextInt(60);
        if (odd == 0) {
            return low - 1;
        }
        if (odd == 1) {
            return high + 1;
        }
        return low + random.nextInt(Math.max(1, high - low + 1));
    }

    private int somePiece() {
        return some(0, pieces - 1);
    }

    private int someBits() {
        return some(0, (1 << pieces) - 1);
    }

    private boolean step(int run) {
        pieces = (int) plain.count(0);
        int which = random.nextInt(60);
        if (pieces < 3 && which > 20 || which < 4) {
            which = 1;
        }
        return which < 24 ? change(run, which) : ask(run, which);
    }

    private boolean change(int run, int which) {
        int i = somePiece();
        switch (which) {
            case 0: case 1: case 2: case 3: case 4: case 5: {
                int[] a = {some(0, 5), some(1, 9), some(1, 9), some(0, 9), some(-1, pieces - 1)};
                return same(run, "piece(" + a[0] + ", " + a[1] + ", " + a[2] + ", " + a[3] + ", " + a[4] + ")",
                        mine.piece(a[0], a[1], a[2], a[3], a[4]), plain.piece(a[0], a[1], a[2], a[3], a[4]));
            }
            case 6: case 7: case 8: case 9: case 10: {
                int o = random.nextInt(3) == 0 ? 12 * random.nextInt(2) : some(0, 12);
                return same(run, "opens(" + o + ")", mine.opens(o), plain.opens(o));
            }
            case 11: case 12: {
                int p = some(0, 3);
                return same(run, "pulls(" + i + ", " + p + ")", mine.pulls(i, p), plain.pulls(i, p));
            }
            case 13: return random.nextInt(3) > 0 || same(run, "tears(" + i + ")", mine.tears(i), plain.tears(i));
            case 14: case 15: return same(run, "undo()", mine.undo(), plain.undo());
            case 16: case 17: return tell(run);
            case 18: {
                int a = some(0, 1);
                return same(run, "image(" + a + ")", mine.image(a), plain.image(a));
            }
            case 19: {
                int a = some(0, 1);
                return same(run, "from(" + a + ")", mine.from(a), plain.from(a));
            }
            case 20: {
                int w = some(6, 40);
                return random.nextInt(4) > 0 || same(run, "book(" + w + ")", mine.book(w), plain.book(w));
            }
            case 21: {
                int a = some(0, 1);
                return same(run, "forget(" + a + ")", mine.forget(a), plain.forget(a));
            }
            case 22: return noteOne(run, i);
            default: return standOne(run);
        }
    }

    private boolean tell(int run) {
        if (random.nextInt(2) > 0) {
            return true;
        }
        boolean right = same(run, "clear()", mine.clear(), plain.clear());
        StringBuilder text = new StringBuilder(random.nextInt(9) == 0 ? "" : "book " + some(6, 40) + ";");
        int many = random.nextInt(14);
        for (int n = 0; n < many; n++) {
            // Right items much more often than wrong ones, so that texts come to their ends.
            int item = random.nextInt(8) == 0 ? random.nextInt(ITEMS.length) : random.nextInt(6);
            text.append(ITEMS[item]);
        }
        for (int n = 0; right && n < text.length(); n++) {
            right = same(run, "type(" + (int) text.charAt(n) + ")", mine.type(text.charAt(n)),
                    plain.type(text.charAt(n)));
        }
        return right && same(run, "read()", mine.read(), plain.read());
    }

    private boolean noteOne(int run, int i) {
        int t = some(1, 9);
        int o = some(0, 12);
        int p = some(0, 3);
        int x = random.nextInt(9) == 0 ? some(0, 20) : PlainBook.rise(random.nextInt(6), Math.max(1, t), o, p);
        return same(run, "note(" + i + ", " + t + ", " + o + ", " + p + ", " + x + ")", mine.note(i, t, o, p, x),
                plain.note(i, t, o, p, x));
    }

    private boolean standOne(int run) {
        int o = some(0, 12);
        int bits = random.nextInt(4) == 0 ? someBits() : (int) Math.max(0, plain.seen(Math.max(0, Math.min(12, o))));
        return same(run, "stood(" + o + ", " + bits + ")", mine.stood(o, bits), plain.stood(o, bits));
    }

    private boolean ask(int run, int which) {
        int i = somePiece();
        int o = some(0, 12);
        int a = some(0, 1);
        switch (which) {
            case 24: {
                int what = some(0, 7);
                return same(run, "of(" + i + ", " + what + ")", mine.of(i, what), plain.of(i, what));
            }
            case 25: case 26: {
                int what = some(0, 2);
                return same(run, "gives(" + i + ", " + o + ", " + what + ")", mine.gives(i, o, what),
                        plain.gives(i, o, what));
            }
            case 27: case 28: return same(run, "height(" + i + ", " + o + ")", mine.height(i, o), plain.height(i, o));
            case 29: case 30: return same(run, "seen(" + o + ")", mine.seen(o), plain.seen(o));
            case 31: return same(run, "first(" + i + ")", mine.first(i), plain.first(i));
            case 32: return same(run, "best(" + a + ")", mine.best(a), plain.best(a));
            case 33: return same(run, "out(" + a + ")", mine.out(a), plain.out(a));
            case 34: case 35: case 36: case 37: {
                int bits = someBits() & (random.nextInt(2) == 0 ? -1 : someBits());
                int k = some(-1, 14);
                return same(run, "tour(" + bits + ", " + k + ")", mine.tour(bits, k), plain.tour(bits, k));
            }
            case 38: case 39: return same(run, "place(" + i + ", " + o + ", " + a + ")", mine.place(i, o, a),
                    plain.place(i, o, a));
            case 40: return same(run, "lasts()", mine.lasts(), plain.lasts());
            case 41: case 42: return same(run, "turns(" + i + ", " + a + ")", mine.turns(i, a), plain.turns(i, a));
            case 43: return same(run, "is(" + i + ")", mine.is(i), plain.is(i));
            case 44: case 45: return same(run, "look(" + i + ")", mine.look(i), plain.look(i));
            case 46: case 47: return same(run, "where(" + i + ", " + a + ")", mine.where(i, a), plain.where(i, a));
            case 48: case 49: {
                int k = some(-1, 10);
                return same(run, "seats(" + k + ")", mine.seats(k), plain.seats(k));
            }
            case 50: case 51: {
                int c = some(0, 10);
                return same(run, "sticks(" + o + ", " + c + ")", mine.sticks(o, c), plain.sticks(o, c));
            }
            case 52: case 53: {
                int seed = some(0, 999999);
                int n = some(0, 60);
                return same(run, "readers(" + seed + ", " + n + ")", mine.readers(seed, n), plain.readers(seed, n));
            }
            case 54: return same(run, "part(" + a + ")", mine.part(a), plain.part(a));
            case 55: return noteOne(run, i);
            case 56: return standOne(run);
            default: {
                int what = some(0, 9);
                return same(run, "count(" + what + ")", mine.count(what), plain.count(what));
            }
        }
    }
}
