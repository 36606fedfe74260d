import java.util.Arrays;

/**
 * One object of the class and one PlainBook, called alike: each answer must be the same. A pair is used for as many
 * calls as the document promises, and for no more.
 */
final class Pair {
    static final int MOST_CALLS = 512;

    private final StandUpBook mine = new StandUpBook();
    private final PlainBook plain = new PlainBook();
    private final String name;
    private final StringBuilder calls = new StringBuilder();
    private int made = 0;

    Pair(String name) {
        this.name = name;
    }

    int callsLeft() {
        return MOST_CALLS - made;
    }

    /** What the plain one counts, asked without a call of the class. */
    int plainCount(int what) {
        return (int) plain.count(what);
    }

    int plainSeen(int o) {
        return (int) plain.seen(o);
    }

    /** Ends with exit code 1, behind all calls of the run, if the two differ. */
    long call(String call, int... a) {
        if (callsLeft() == 0) {
            fail(name + ": a test's own run is longer than " + MOST_CALLS + " calls");
        }
        made++;
        long got = ofMine(call, a);
        long want = ofPlain(call, a);
        calls.append(call).append(Arrays.toString(a)).append(" = ").append(got).append('\n');
        if (got != want) {
            fail(calls + name + ", call " + made + ": the last answer is not as due, that is " + want);
        }
        return got;
    }

    /** All that there is, by what it takes four calls to ask. */
    void callForAll() {
        call("digest");
        for (int what = 0; what < 3; what++) {
            call("status", what);
        }
    }

    void typeAll(String text) {
        for (int i = 0; i < text.length(); i++) {
            call("type", text.charAt(i));
        }
    }

    private static void fail(String why) {
        System.out.println(why);
        System.exit(1);
    }

    private long ofMine(String call, int[] a) {
        switch (call) {
            case "book": return mine.book(a[0]);
            case "piece": return mine.piece(a[0], a[1], a[2], a[3], a[4]);
            case "type": return mine.type(a[0]);
            case "clear": return mine.clear();
            case "read": return mine.read();
            case "opens": return mine.opens(a[0]);
            case "pulls": return mine.pulls(a[0], a[1]);
            case "tears": return mine.tears(a[0]);
            case "undo": return mine.undo();
            case "of": return mine.of(a[0], a[1]);
            case "gives": return mine.gives(a[0], a[1], a[2]);
            case "height": return mine.height(a[0], a[1]);
            case "seen": return mine.seen(a[0]);
            case "first": return mine.first(a[0]);
            case "best": return mine.best(a[0]);
            case "out": return mine.out(a[0]);
            case "tour": return mine.tour(a[0], a[1]);
            case "place": return mine.place(a[0], a[1], a[2]);
            case "lasts": return mine.lasts();
            case "turns": return mine.turns(a[0], a[1]);
            case "note": return mine.note(a[0], a[1], a[2], a[3], a[4]);
            case "stood": return mine.stood(a[0], a[1]);
            case "forget": return mine.forget(a[0]);
            case "is": return mine.is(a[0]);
            case "look": return mine.look(a[0]);
            case "where": return mine.where(a[0], a[1]);
            case "seats": return mine.seats(a[0]);
            case "sticks": return mine.sticks(a[0], a[1]);
            case "readers": return mine.readers(a[0], a[1]);
            case "part": return mine.part(a[0]);
            case "image": return mine.image(a[0]);
            case "from": return mine.from(a[0]);
            case "status": return mine.status(a[0]);
            case "count": return mine.count(a[0]);
            case "digest": return mine.digest();
            default: throw new IllegalArgumentException(call);
        }
    }

    private long ofPlain(String call, int[] a) {
        switch (call) {
            case "book": return plain.book(a[0]);
            case "piece": return plain.piece(a[0], a[1], a[2], a[3], a[4]);
            case "type": return plain.type(a[0]);
            case "clear": return plain.clear();
            case "read": return plain.read();
            case "opens": return plain.opens(a[0]);
            case "pulls": return plain.pulls(a[0], a[1]);
            case "tears": return plain.tears(a[0]);
            case "undo": return plain.undo();
            case "of": return plain.of(a[0], a[1]);
            case "gives": return plain.gives(a[0], a[1], a[2]);
            case "height": return plain.height(a[0], a[1]);
            case "seen": return plain.seen(a[0]);
            case "first": return plain.first(a[0]);
            case "best": return plain.best(a[0]);
            case "out": return plain.out(a[0]);
            case "tour": return plain.tour(a[0], a[1]);
            case "place": return plain.place(a[0], a[1], a[2]);
            case "lasts": return plain.lasts();
            case "turns": return plain.turns(a[0], a[1]);
            case "note": return plain.note(a[0], a[1], a[2], a[3], a[4]);
            case "stood": return plain.stood(a[0], a[1]);
            case "forget": return plain.forget(a[0]);
            case "is": return plain.is(a[0]);
            case "look": return plain.look(a[0]);
            case "where": return plain.where(a[0], a[1]);
            case "seats": return plain.seats(a[0]);
            case "sticks": return plain.sticks(a[0], a[1]);
            case "readers": return plain.readers(a[0], a[1]);
            case "part": return plain.part(a[0]);
            case "image": return plain.image(a[0]);
            case "from": return plain.from(a[0]);
            case "status": return plain.status(a[0]);
            case "count": return plain.count(a[0]);
            case "digest": return plain.digest();
            default: throw new IllegalArgumentException(call);
        }
    }
}
