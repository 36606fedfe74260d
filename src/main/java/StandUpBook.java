/**
 * A book that stands up: leaves of paper, glued to a page and to one another, that rise as the book is opened.
 * The document of the project says what each call answers and what it refuses.
 */
public final class StandUpBook {
    public static final int NONE = -1, BAD = -2, NO = -3, FULL = -4;

    private static final int NOT_SO_MANY = -5;
    // tour and seats tell BAD by a number of their own; it counts as BAD all the same.
    private static final int BAD_ELSEWHERE = -10;
    private static final int FAULT_AT_0 = -10;

    private static final int FLAT = 12;
    private static final int HALF_OPEN = 6;
    private static final int OPENINGS = 13;
    private static final int KINDS = 6;
    private static final int MOST_PIECES = 7;
    private static final int MOST_ARM = 9;
    private static final int MOST_TALL = 9;
    private static final int MOST_ROW = 9;
    private static final int MOST_TAB = 3;
    private static final int MOST_WEAR = 999;
    private static final int LEAST_WIDE = 6;
    private static final int MOST_WIDE = 40;
    private static final int FIRST_WIDE = 20;
    private static final int MOST_UNDONE = 6;
    private static final int MOST_NOTES = 6;
    private static final int NOTE_PARTS = 5;
    private static final int MOST_ROSE = 20;
    private static final int MOST_STOOD = 6;
    private static final int STOOD_PARTS = 2;
    private static final int MOST_BYTES = 150;
    private static final int IMAGES = 2;
    private static final int MOST_TIMES = 99;
    private static final int MOST_SEED = 999999;
    private static final int MOST_READERS = 60;
    private static final int ODDS = 10;
    private static final int COUNTS = 10;

    private final Spread now;
    private final Spread[] images = new Spread[IMAGES];
    private final boolean[] kept = new boolean[IMAGES];
    private final Text text = new Text();
    // What would be, were something else: one page for all such questions, so that no call makes a new one.
    private final Page trial;
    private final Walk walk = new Walk();
    private final int[] seenMany = new int[OPENINGS];
    private final int[] highest = new int[OPENINGS];
    private long above = 0;
    private long below = 1;
    private int badOnes = 0;
    private int noOnes = 0;
    private int fullOnes = 0;

    public StandUpBook() {
        Vee[] kinds = {new Vee(), new Tent(), new Box(), new Flap(), new Stage(), new Wheel()};
        now = new Spread(kinds);
        for (int i = 0; i < IMAGES; i++) {
            images[i] = new Spread(kinds);
        }
        trial = new Page(kinds);
    }

    // ---- a book

    public int book(int wide) {
        if (outside(wide, LEAST_WIDE, MOST_WIDE)) {
            return refuseBad();
        }
        int had = now.page.many;
        now.startAnew(wide);
        return had;
    }

    public int piece(int kind, int arm, int tall, int row, int on) {
        if (outside(kind, 0, KINDS - 1) || outside(arm, 1, MOST_ARM) || outside(tall, 1, MOST_TALL)
                || outside(row, 0, MOST_ROW) || outside(on, NONE, now.page.many - 1)) {
            return refuseBad();
        }
        if (now.page.isFull()) {
            return refuseFull();
        }
        now.undoable = 0;
        return now.page.glue(kind, arm, tall, row, on);
    }

    public int type(int c) {
        if (outside(c, 0, 127)) {
            return refuseBad();
        }
        if (text.length >= MOST_BYTES) {
            return refuseFull();
        }
        text.append(c);
        return text.length;
    }

    public int clear() {
        int had = text.length;
        text.length = 0;
        return had;
    }

    public int read() {
        int items = text.tellTo(trial);
        if (items >= 0) {
            now.startAnew(trial.wide);
            now.page.copyFrom(trial);
        }
        return items;
    }

    // ---- openings

    public int opens(int o) {
        if (isNoOpening(o)) {
            return refuseBad();
        }
        if (now.page.open == o) {
            return refuseNo();
        }
        now.remember();
        now.page.openTo(o);
        return now.page.visibleAt(o, 0);
    }

    public int pulls(int i, int p) {
        if (isNoPiece(i) || outside(p, 0, MOST_TAB)) {
            return refuseBad();
        }
        int was = now.page.pieces[i].tab;
        if (was == p) {
            return refuseNo();
        }
        now.remember();
        now.page.pieces[i].tab = p;
        return was;
    }

    public int tears(int i) {
        if (isNoPiece(i)) {
            return refuseBad();
        }
        now.remember();
        now.noteMany = 0;
        now.stoodMany = 0;
        return now.page.tearOut(i);
    }

    public int undo() {
        if (now.undoable == 0) {
            return refuseNo();
        }
        now.stepBack();
        return now.page.open;
    }

    public int of(int i, int what) {
        if (isNoPiece(i)) {
            return refuseBad();
        }
        Piece piece = now.page.pieces[i];
        switch (what) {
            case 0: return piece.kind;
            case 1: return piece.arm;
            case 2: return piece.tall;
            case 3: return piece.row;
            case 4: return piece.on;
            case 5: return piece.tab;
            case 6: return piece.wear;
            case 7: return piece.isStuck() ? 1 : 0;
            default: return refuseBad();
        }
    }

    // ---- how high

    public int gives(int i, int o, int what) {
        if (isNoPiece(i) || isNoOpening(o)) {
            return refuseBad();
        }
        switch (what) {
            case 0: return now.page.rises(i, o);
            case 1: return now.page.reaches(i);
            case 2: return now.page.pieces[i].bears;
            default: return refuseBad();
        }
    }

    public int height(int i, int o) {
        if (isNoPiece(i) || isNoOpening(o)) {
            return refuseBad();
        }
        now.page.measure(o, 0);
        return now.page.heights[i];
    }

    public int seen(int o) {
        if (isNoOpening(o)) {
            return refuseBad();
        }
        return now.page.visibleAt(o, 0);
    }

    public int first(int i) {
        if (isNoPiece(i)) {
            return refuseBad();
        }
        int goal = openingsThatShow(i);
        for (int o = 0; o <= FLAT; o++) {
            if (has(goal, o)) {
                return o;
            }
        }
        return NONE;
    }

    public int best(int what) {
        if (outside(what, 0, 1)) {
            return refuseBad();
        }
        int which = 0;
        int most = 0;
        for (int o = 0; o <= FLAT; o++) {
            int many = now.page.visibleMany(o);
            if (many > most) {
                which = o;
                most = many;
            }
        }
        return what == 0 ? which : most;
    }

    public int out(int what) {
        if (outside(what, 0, 1)) {
            return refuseBad();
        }
        return what == 0 ? now.page.sticksOut() : now.page.leastWide();
    }

    public int tour(int pieces, int i) {
        if (areNoPieces(pieces) || i < NONE) {
            return refuseBadElsewhere();
        }
        int start = now.page.open;
        for (int o = 0; o <= FLAT; o++) {
            walk.shown[o] = now.page.visibleAt(o, 0);
        }
        walk.wanted = pieces;
        if (!walk.covers(0, FLAT)) {
            return NONE;
        }
        int steps = walk.stepsLeft(start, start, start);
        if (i > steps) {
            return NOT_SO_MANY;
        }
        return i == NONE ? steps : walk.openingAfter(start, i);
    }

    public int place(int i, int o, int what) {
        if (isNoPiece(i) || isNoOpening(o) || outside(what, 0, 1)) {
            return refuseBad();
        }
        trial.copyFrom(now.page);
        int which = 0;
        int most = 0;
        for (int row = 0; row <= MOST_ROW; row++) {
            trial.pieces[i].row = row;
            int many = trial.visibleMany(o);
            if (many > most) {
                which = row;
                most = many;
            }
        }
        return what == 0 ? which : most;
    }

    public int lasts() {
        for (int times = 0; times <= MOST_TIMES; times++) {
            if (now.page.sticksWith(2 * FLAT * times)) {
                return times;
            }
        }
        return NONE;
    }

    public int turns(int i, int what) {
        if (isNoPiece(i) || outside(what, 0, 1)) {
            return refuseBad();
        }
        int start = now.page.open;
        int goal = openingsThatShow(i);
        if (has(goal, start)) {
            return what == 0 ? 2 : NONE;
        }
        int step = winningStep(start, 1 << start, goal, OPENINGS);
        if (what == 1) {
            return step;
        }
        return step == NONE ? 0 : 1;
    }

    // ---- what it was

    public int note(int i, int t, int o, int p, int x) {
        if (isNoPiece(i) || outside(t, 1, MOST_TALL) || isNoOpening(o) || outside(p, 0, MOST_TAB)
                || outside(x, 0, MOST_ROSE)) {
            return refuseBad();
        }
        if (now.noteMany >= MOST_NOTES) {
            return refuseFull();
        }
        int[] row = now.notes[now.noteMany];
        row[0] = i;
        row[1] = t;
        row[2] = o;
        row[3] = p;
        row[4] = x;
        now.noteMany++;
        return now.noteMany;
    }

    public int stood(int o, int pieces) {
        if (isNoOpening(o) || areNoPieces(pieces)) {
            return refuseBad();
        }
        if (now.stoodMany >= MOST_STOOD) {
            return refuseFull();
        }
        int[] row = now.stoodOnes[now.stoodMany];
        row[0] = o;
        row[1] = pieces;
        now.stoodMany++;
        return now.stoodMany;
    }

    public int forget(int what) {
        int had;
        switch (what) {
            case 0:
                had = now.noteMany;
                now.noteMany = 0;
                return had;
            case 1:
                had = now.stoodMany;
                now.stoodMany = 0;
                return had;
            default:
                return refuseBad();
        }
    }

    public int is(int i) {
        if (isNoPiece(i)) {
            return refuseBad();
        }
        return kindsThatFit(i);
    }

    public int look(int i) {
        if (isNoPiece(i)) {
            return refuseBad();
        }
        int fit = kindsThatFit(i);
        if (fit == 0) {
            return NONE;
        }
        int tall = now.page.pieces[i].tall;
        int which = NONE;
        int fewest = KINDS + 1;
        for (int o = 0; o <= FLAT; o++) {
            for (int p = 0; p <= MOST_TAB; p++) {
                int alike = mostAlike(fit, tall, o, p);
                if (alike < fewest) {
                    which = 10 * o + p;
                    fewest = alike;
                }
            }
        }
        return which;
    }

    public int where(int i, int what) {
        if (isNoPiece(i) || outside(what, 0, 1)) {
            return refuseBad();
        }
        trial.copyFrom(now.page);
        Piece piece = trial.pieces[i];
        int high = what == 0 ? MOST_ROW : MOST_TALL;
        int bits = 0;
        for (int value = what == 0 ? 0 : 1; value <= high; value++) {
            if (what == 0) {
                piece.row = value;
            } else {
                piece.tall = value;
            }
            if (trialStandsSo()) {
                bits |= 1 << value;
            }
        }
        return bits;
    }

    public int seats(int k) {
        if (k < NONE) {
            return refuseBadElsewhere();
        }
        for (int o = 0; o <= FLAT; o++) {
            seenMany[o] = now.page.visibleMany(o);
            highest[o] = now.page.highestAt(o);
        }
        int found = 0;
        for (int pair = 0; pair < OPENINGS * OPENINGS; pair++) {
            if (rests(pair / OPENINGS, pair % OPENINGS)) {
                if (found == k) {
                    return pair;
                }
                found++;
            }
        }
        return k == NONE ? found : NOT_SO_MANY;
    }

    public int sticks(int o, int c) {
        if (isNoOpening(o) || outside(c, 0, ODDS)) {
            return refuseBad();
        }
        int loose = now.page.looseOnes();
        int looseMany = Integer.bitCount(loose);
        long sum = 0;
        for (int held = 0; held <= loose; held++) {
            if ((held & ~loose) == 0) {
                int heldMany = Integer.bitCount(held);
                long weight = power(c, heldMany) * power(ODDS - c, looseMany - heldMany);
                sum += weight * Integer.bitCount(now.page.visibleAt(o, held));
            }
        }
        keepFraction(sum, power(ODDS, looseMany));
        return 1;
    }

    public int readers(int seed, int n) {
        if (outside(seed, 0, MOST_SEED) || outside(n, 0, MOST_READERS)) {
            return refuseBad();
        }
        trial.copyFrom(now.page);
        long x = seed;
        int all = 0;
        for (int time = 0; time < n; time++) {
            x = (x * 1103515245L + 12345L) % 2147483648L;
            int o = (int) (x / 65536L % OPENINGS);
            trial.openTo(o);
            all += trial.visibleMany(o);
        }
        return all;
    }

    // ---- what there is

    public long part(int what) {
        switch (what) {
            case 0: return above;
            case 1: return below;
            default: return refuseBad();
        }
    }

    public int image(int i) {
        if (outside(i, 0, IMAGES - 1)) {
            return refuseBad();
        }
        images[i].copyFrom(now);
        kept[i] = true;
        return 1;
    }

    public int from(int i) {
        if (outside(i, 0, IMAGES - 1)) {
            return refuseBad();
        }
        if (!kept[i]) {
            return refuseNo();
        }
        now.copyFrom(images[i]);
        return 1;
    }

    public int status(int what) {
        switch (what) {
            case 0: return badOnes;
            case 1: return noOnes;
            case 2: return fullOnes;
            default:
                badOnes++;
                return NONE;
        }
    }

    public int count(int what) {
        Page page = now.page;
        switch (what) {
            case 0: return page.many;
            case 1: return page.open;
            case 2: return page.wide;
            case 3: return Integer.bitCount(page.visibleAt(page.open, 0));
            case 4: return page.many - Integer.bitCount(page.looseOnes());
            case 5: return page.wearOfAll();
            case 6: return now.noteMany;
            case 7: return now.stoodMany;
            case 8: return now.undoable;
            case 9: return text.length;
            default: return refuseBad();
        }
    }

    public long digest() {
        long h = 1511;
        for (int what = 0; what < COUNTS; what++) {
            h = mixed(h, count(what));
        }
        h = now.page.mixedInto(h);
        h = mixedRows(h, now.notes, now.noteMany);
        h = mixedRows(h, now.stoodOnes, now.stoodMany);
        return mixed(mixed(h, above), below);
    }

    // ---- refusing

    private int refuseBad() {
        badOnes++;
        return BAD;
    }

    private int refuseBadElsewhere() {
        badOnes++;
        return BAD_ELSEWHERE;
    }

    private int refuseNo() {
        noOnes++;
        return NO;
    }

    private int refuseFull() {
        fullOnes++;
        return FULL;
    }

    private boolean isNoPiece(int i) {
        return outside(i, 0, now.page.many - 1);
    }

    private boolean areNoPieces(int bits) {
        return outside(bits, 0, (1 << now.page.many) - 1);
    }

    private static boolean isNoOpening(int o) {
        return outside(o, 0, FLAT);
    }

    private static boolean outside(int value, int low, int high) {
        return value < low || value > high;
    }

    private static boolean has(int bits, int i) {
        return (bits >> i & 1) != 0;
    }

    // ---- what the calls above ask of the book

    private int openingsThatShow(int i) {
        int openings = 0;
        for (int o = 0; o <= FLAT; o++) {
            if (has(now.page.visibleAt(o, 0), i)) {
                openings |= 1 << o;
            }
        }
        return openings;
    }

    /** The least opening by which who is to go wins, or NONE; left guards how deep the game is looked into. */
    private static int winningStep(int at, int gone, int goal, int left) {
        if (left <= 0) {
            return NONE;
        }
        int last = Math.min(FLAT, at + 2);
        for (int to = Math.max(0, at - 2); to <= last; to++) {
            if (has(gone, to)) {
                continue;
            }
            if (has(goal, to) || winningStep(to, gone | 1 << to, goal, left - 1) == NONE) {
                return to;
            }
        }
        return NONE;
    }

    private int kindsThatFit(int i) {
        int bits = 0;
        for (int kind = 0; kind < KINDS; kind++) {
            if (fitsNotes(kind, i)) {
                bits |= 1 << kind;
            }
        }
        return bits;
    }

    private boolean fitsNotes(int kind, int i) {
        for (int n = 0; n < now.noteMany; n++) {
            int[] row = now.notes[n];
            if (row[0] == i && now.page.kinds[kind].riseOf(row[1], row[2], row[3]) != row[4]) {
                return false;
            }
        }
        return true;
    }

    private int mostAlike(int fit, int tall, int o, int tab) {
        int most = 0;
        for (int one = 0; one < KINDS; one++) {
            if (has(fit, one)) {
                int rise = now.page.kinds[one].riseOf(tall, o, tab);
                most = Math.max(most, manyThatRise(rise, fit, tall, o, tab));
            }
        }
        return most;
    }

    private int manyThatRise(int rise, int fit, int tall, int o, int tab) {
        int many = 0;
        for (int kind = 0; kind < KINDS; kind++) {
            if (has(fit, kind) && now.page.kinds[kind].riseOf(tall, o, tab) == rise) {
                many++;
            }
        }
        return many;
    }

    private boolean trialStandsSo() {
        for (int n = 0; n < now.stoodMany; n++) {
            int[] row = now.stoodOnes[n];
            if (trial.visibleAt(row[0], 0) != row[1]) {
                return false;
            }
        }
        return true;
    }

    private boolean rests(int i, int j) {
        for (int other = 0; other <= FLAT; other++) {
            if (firstGets(other, j) > firstGets(i, j) || secondGets(i, other) > secondGets(i, j)) {
                return false;
            }
        }
        return true;
    }

    private int firstGets(int i, int j) {
        return seenMany[Math.max(i, j)] - i / 4;
    }

    private int secondGets(int i, int j) {
        return highest[Math.max(i, j)] - j / 4;
    }

    private static long power(int base, int times) {
        long result = 1;
        for (int i = 0; i < times; i++) {
            result *= base;
        }
        return result;
    }

    private void keepFraction(long top, long bottom) {
        long common = commonDivisor(top, bottom);
        if (common > 0) {
            above = top / common;
            below = bottom / common;
        }
    }

    private static long commonDivisor(long one, long other) {
        long a = one;
        long b = other;
        // What is left over at least halves every second time: 128 times are more than 64 bits can need.
        for (int left = 128; left > 0 && b != 0; left--) {
            long rest = a % b;
            a = b;
            b = rest;
        }
        return a;
    }

    private static long mixed(long h, long v) {
        return 31 * h + v;
    }

    private static long mixedRows(long h, int[][] rows, int many) {
        long result = h;
        for (int n = 0; n < many; n++) {
            for (int value : rows[n]) {
                result = mixed(result, value);
            }
        }
        return result;
    }

    // ---- KINDS, each under the one told

    private static class Vee {
        int riseOf(int tall, int o, int tab) {
            return tall * o / FLAT;
        }

        int reachOf(int arm, int tall) {
            return tall + arm;
        }

        int bearing() {
            return 150;
        }
    }

    private static final class Tent extends Vee {
        int riseOf(int tall, int o, int tab) {
            int vee = super.riseOf(tall, o, tab);
            return o >= HALF_OPEN ? vee + 1 : vee;
        }
    }

    private static class Box extends Vee {
        int riseOf(int tall, int o, int tab) {
            return super.riseOf(tall, o <= HALF_OPEN ? 2 * o : 2 * (FLAT - o), tab);
        }

        int reachOf(int arm, int tall) {
            return super.reachOf(arm, tall) + 2 * arm;
        }

        int bearing() {
            return super.bearing() + 50;
        }
    }

    private static class Flap extends Vee {
        int riseOf(int tall, int o, int tab) {
            return o < 4 ? 0 : super.riseOf(tall, o, tab);
        }

        int reachOf(int arm, int tall) {
            return super.reachOf(arm, tall) - arm;
        }
    }

    private static final class Stage extends Box {
        int riseOf(int tall, int o, int tab) {
            return (super.riseOf(tall, o, tab) + 1) / 2;
        }

        int bearing() {
            return 2 * super.bearing();
        }
    }

    private static final class Wheel extends Flap {
        int riseOf(int tall, int o, int tab) {
            int flap = super.riseOf(tall, o, tab);
            return flap >= 1 ? flap + tab : flap;
        }

        int reachOf(int arm, int tall) {
            return super.reachOf(arm, tall) + 3;
        }

        int bearing() {
            return super.bearing() / 2;
        }
    }

    private static final class Piece {
        int kind;
        int arm;
        int tall;
        int row;
        int on;
        int tab;
        int wear;
        // What its kind bears: kept, as it is asked for at each measuring.
        int bears;

        boolean isStuck() {
            return wear >= bears;
        }

        void copyFrom(Piece other) {
            kind = other.kind;
            arm = other.arm;
            tall = other.tall;
            row = other.row;
            on = other.on;
            tab = other.tab;
            wear = other.wear;
            bears = other.bears;
        }

        long mixedInto(long h) {
            long result = mixed(mixed(mixed(h, kind), arm), tall);
            result = mixed(mixed(result, row), on);
            return mixed(mixed(result, tab), wear);
        }
    }

    /**
     * The page with what is glued on it, as it is open. Of the pieces the first many are there; each is ON one of
     * lesser number, or NONE.
     */
    private static final class Page {
        final Vee[] kinds;
        final Piece[] pieces = new Piece[MOST_PIECES];
        // How high each stands where it was measured last: kept here so that measuring makes no new row.
        final int[] heights = new int[MOST_PIECES];
        int wide = FIRST_WIDE;
        int open = 0;
        int many = 0;

        Page(Vee[] kinds) {
            this.kinds = kinds;
            for (int i = 0; i < MOST_PIECES; i++) {
                pieces[i] = new Piece();
            }
        }

        void startAnew(int newWide) {
            wide = newWide;
            open = 0;
            many = 0;
        }

        void copyFrom(Page other) {
            wide = other.wide;
            open = other.open;
            many = other.many;
            for (int i = 0; i < many; i++) {
                pieces[i].copyFrom(other.pieces[i]);
            }
        }

        boolean isFull() {
            return many >= MOST_PIECES;
        }

        int glue(int kind, int arm, int tall, int row, int on) {
            if (isFull()) {
                return NONE;
            }
            Piece piece = pieces[many];
            piece.kind = kind;
            piece.arm = arm;
            piece.tall = tall;
            piece.row = row;
            piece.on = on;
            piece.tab = 0;
            piece.wear = 0;
            piece.bears = kinds[kind].bearing();
            many++;
            return many - 1;
        }

        void openTo(int o) {
            int steps = Math.abs(o - open);
            for (int i = 0; i < many; i++) {
                if (!pieces[i].isStuck()) {
                    pieces[i].wear = Math.min(MOST_WEAR, pieces[i].wear + steps);
                }
            }
            open = o;
        }

        int tearOut(int i) {
            int torn = 1 << i;
            // One that is ON another has the greater number, so one way through finds all of them.
            for (int j = i + 1; j < many; j++) {
                if (pieces[j].on >= 0 && has(torn, pieces[j].on)) {
                    torn |= 1 << j;
                }
            }
            int had = many;
            many = 0;
            for (int j = 0; j < had; j++) {
                if (!has(torn, j)) {
                    pieces[many].copyFrom(pieces[j]);
                    pieces[many].on = numberWithout(torn, pieces[j].on);
                    many++;
                }
            }
            return had - many;
        }

        private static int numberWithout(int torn, int on) {
            return on < 0 ? NONE : Integer.bitCount(~torn & (1 << on) - 1);
        }

        int rises(int i, int o) {
            return kinds[pieces[i].kind].riseOf(pieces[i].tall, o, pieces[i].tab);
        }

        int reaches(int i) {
            return kinds[pieces[i].kind].reachOf(pieces[i].arm, pieces[i].tall);
        }

        int looseOnes() {
            int bits = 0;
            for (int i = 0; i < many; i++) {
                if (!pieces[i].isStuck()) {
                    bits |= 1 << i;
                }
            }
            return bits;
        }

        boolean sticksWith(int moreWear) {
            for (int i = 0; i < many; i++) {
                if (pieces[i].wear + moreWear >= pieces[i].bears) {
                    return true;
                }
            }
            return false;
        }

        int wearOfAll() {
            int wear = 0;
            for (int i = 0; i < many; i++) {
                wear += pieces[i].wear;
            }
            return wear;
        }

        /** Fills heights for opening o; those held (bits) rise 0, as do the stuck ones. */
        void measure(int o, int held) {
            for (int i = 0; i < many; i++) {
                Piece piece = pieces[i];
                int ground = piece.on >= 0 && piece.on < i ? heights[piece.on] : 0;
                boolean lies = has(held, i) || piece.isStuck();
                int rise = lies ? 0 : kinds[piece.kind].riseOf(piece.tall, o, piece.tab);
                heights[i] = ground + rise;
            }
        }

        int visibleAt(int o, int held) {
            measure(o, held);
            int bits = 0;
            for (int i = 0; i < many; i++) {
                if (heights[i] >= 1 && !isHidden(i)) {
                    bits |= 1 << i;
                }
            }
            return bits;
        }

        private boolean isHidden(int i) {
            for (int j = 0; j < many; j++) {
                if (pieces[j].row < pieces[i].row && heights[j] >= heights[i]) {
                    return true;
                }
            }
            return false;
        }

        int visibleMany(int o) {
            return Integer.bitCount(visibleAt(o, 0));
        }

        int highestAt(int o) {
            measure(o, 0);
            int most = 0;
            for (int i = 0; i < many; i++) {
                most = Math.max(most, heights[i]);
            }
            return most;
        }

        /** How far out a piece comes, with all that it is ON laid flat ahead of it. */
        private int reachesInAll(int i) {
            int far = 0;
            int at = i;
            for (int left = MOST_PIECES; left > 0 && at >= 0 && at < many; left--) {
                far += reaches(at);
                at = pieces[at].on;
            }
            return far;
        }

        int sticksOut() {
            int bits = 0;
            for (int i = 0; i < many; i++) {
                if (reachesInAll(i) > wide) {
                    bits |= 1 << i;
                }
            }
            return bits;
        }

        int leastWide() {
            int least = LEAST_WIDE;
            for (int i = 0; i < many; i++) {
                least = Math.max(least, reachesInAll(i));
            }
            return least > MOST_WIDE ? NONE : least;
        }

        long mixedInto(long h) {
            long result = h;
            for (int i = 0; i < many; i++) {
                result = pieces[i].mixedInto(result);
            }
            return result;
        }
    }

    /** All that an image keeps: the page, the pages to go back to, notes and how it stood. */
    private static final class Spread {
        final Page page;
        final Page[] past = new Page[MOST_UNDONE];
        final int[][] notes = new int[MOST_NOTES][NOTE_PARTS];
        final int[][] stoodOnes = new int[MOST_STOOD][STOOD_PARTS];
        int undoable = 0;
        int noteMany = 0;
        int stoodMany = 0;

        Spread(Vee[] kinds) {
            page = new Page(kinds);
            for (int i = 0; i < MOST_UNDONE; i++) {
                past[i] = new Page(kinds);
            }
        }

        void startAnew(int wide) {
            page.startAnew(wide);
            undoable = 0;
            noteMany = 0;
            stoodMany = 0;
        }

        void remember() {
            if (undoable >= MOST_UNDONE) {
                dropOldest();
            }
            past[undoable].copyFrom(page);
            undoable++;
        }

        private void dropOldest() {
            Page oldest = past[0];
            for (int i = 1; i < MOST_UNDONE; i++) {
                past[i - 1] = past[i];
            }
            past[MOST_UNDONE - 1] = oldest;
            undoable = MOST_UNDONE - 1;
        }

        void stepBack() {
            if (undoable > 0) {
                undoable--;
                page.copyFrom(past[undoable]);
            }
        }

        void copyFrom(Spread other) {
            page.copyFrom(other.page);
            undoable = other.undoable;
            for (int i = 0; i < undoable; i++) {
                past[i].copyFrom(other.past[i]);
            }
            noteMany = other.noteMany;
            for (int n = 0; n < noteMany; n++) {
                System.arraycopy(other.notes[n], 0, notes[n], 0, NOTE_PARTS);
            }
            stoodMany = other.stoodMany;
            for (int n = 0; n < stoodMany; n++) {
                System.arraycopy(other.stoodOnes[n], 0, stoodOnes[n], 0, STOOD_PARTS);
            }
        }
    }

    /** The way of least steps that shows all that is wanted; what is passed on the way is shown, too. */
    private static final class Walk {
        private static final int TOO_FAR = 1000;

        final int[] shown = new int[OPENINGS];
        int wanted = 0;

        boolean covers(int low, int high) {
            int bits = 0;
            for (int o = Math.max(0, low); o <= high && o <= FLAT; o++) {
                bits |= shown[o];
            }
            return (wanted & ~bits) == 0;
        }

        /** The steps still to go from at, when all from low to high have been passed already. */
        int stepsLeft(int at, int low, int high) {
            int least = TOO_FAR;
            for (int bottom = low; bottom >= 0; bottom--) {
                for (int top = high; top <= FLAT; top++) {
                    if (covers(bottom, top)) {
                        int down = bottom < low ? at - bottom : 0;
                        int up = top > high ? top - at : 0;
                        // Where both ends are wanted, the shorter way is gone to and fro.
                        least = Math.min(least, down + up + Math.min(down, up));
                    }
                }
            }
            return least;
        }

        /** Where the first of the shortest ways is after so many steps. */
        int openingAfter(int start, int steps) {
            int at = start;
            int low = start;
            int high = start;
            int left = stepsLeft(at, low, high);
            for (int step = 0; step < steps && left > 0; step++) {
                left--;
                boolean down = at > 0 && stepsLeft(at - 1, Math.min(low, at - 1), high) == left;
                at = down ? at - 1 : at + 1;
                low = Math.min(low, at);
                high = Math.max(high, at);
            }
            return at;
        }
    }

    /** The text, and the token of it that is looked at while a book is told by it. */
    private static final class Text {
        private static final int ENDED = 0, WORD = 1, NUMBER = 2, SEMICOLON = 3, NOTHING = 4;

        final byte[] bytes = new byte[MOST_BYTES];
        int length = 0;
        private int sort = ENDED;
        private int start = 0;
        private int end = 0;
        private int value = 0;
        private int fault = NONE;

        void append(int c) {
            if (length < MOST_BYTES) {
                bytes[length] = (byte) c;
                length++;
            }
        }

        /** Tells the book to a page: how many items there are, or less than 0 by where the fault is. */
        int tellTo(Page page) {
            end = 0;
            fault = NONE;
            step();
            tellBook(page);
            int items = 1;
            // Each item takes bytes, so there are fewer items than bytes.
            for (int left = length; left > 0 && fault == NONE && sort != ENDED; left--) {
                if (isWord("piece") && !page.isFull()) {
                    tellPiece(page, false);
                } else if (isWord("on") && !page.isFull()) {
                    tellPiece(page, true);
                } else if (isWord("open")) {
                    tellOpen(page);
                } else if (isWord("pull")) {
                    tellPull(page);
                } else {
                    fault = start;
                }
                items++;
            }
            return fault == NONE ? items : FAULT_AT_0 - fault;
        }

        private void tellBook(Page page) {
            if (!isWord("book")) {
                fault = start;
                return;
            }
            step();
            int wide = number(LEAST_WIDE, MOST_WIDE);
            endItem();
            page.startAnew(wide);
        }

        private void tellPiece(Page page, boolean onOther) {
            step();
            int kind = number(0, KINDS - 1);
            int arm = number(1, MOST_ARM);
            int tall = number(1, MOST_TALL);
            int row = number(0, MOST_ROW);
            int on = onOther ? number(0, page.many - 1) : NONE;
            endItem();
            if (fault == NONE) {
                page.glue(kind, arm, tall, row, on);
            }
        }

        private void tellOpen(Page page) {
            step();
            int o = number(0, FLAT);
            endItem();
            if (fault == NONE) {
                page.openTo(o);
            }
        }

        private void tellPull(Page page) {
            step();
            int i = number(0, page.many - 1);
            int tab = number(0, MOST_TAB);
            endItem();
            if (fault == NONE && i < page.many) {
                page.pieces[i].tab = tab;
            }
        }

        /** Takes a number; behind a fault nothing is looked at any more, and what is answered is not used. */
        private int number(int low, int high) {
            if (fault != NONE) {
                return low;
            }
            if (sort != NUMBER || value < low || value > high) {
                fault = start;
                return low;
            }
            int told = value;
            step();
            return told;
        }

        private void endItem() {
            if (fault != NONE) {
                return;
            }
            if (sort == SEMICOLON) {
                step();
            } else {
                fault = start;
            }
        }

        private boolean isWord(String word) {
            if (sort != WORD || end - start != word.length()) {
                return false;
            }
            for (int i = 0; i < word.length(); i++) {
                if (bytes[start + i] != word.charAt(i)) {
                    return false;
                }
            }
            return true;
        }

        /** Goes to the next token; where the text ends, that is its length. */
        private void step() {
            start = end;
            while (start < length && bytes[start] == ' ') {
                start++;
            }
            end = start;
            if (start >= length) {
                sort = ENDED;
            } else if (isLetter(start)) {
                sort = WORD;
                while (end < length && isLetter(end)) {
                    end++;
                }
            } else if (isFigure(start)) {
                stepOverFigures();
            } else {
                sort = bytes[start] == ';' ? SEMICOLON : NOTHING;
                end++;
            }
        }

        private void stepOverFigures() {
            value = 0;
            while (end < length && isFigure(end)) {
                // Only one or two figures are a number: the value of a longer run is not used, and stays small.
                value = value % 10 * 10 + bytes[end] - '0';
                end++;
            }
            sort = end - start <= 2 ? NUMBER : NOTHING;
        }

        private boolean isLetter(int at) {
            return bytes[at] >= 'a' && bytes[at] <= 'z';
        }

        private boolean isFigure(int at) {
            return bytes[at] >= '0' && bytes[at] <= '9';
        }
    }
}
