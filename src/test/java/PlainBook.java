import java.util.ArrayDeque;
import java.util.ArrayList;
import java.util.Arrays;
import java.util.Deque;
import java.util.HashSet;
import java.util.List;
import java.util.Set;
import java.util.regex.Matcher;
import java.util.regex.Pattern;

/**
 * The document once more, by the plainest means and apart from the class: lists that are copied, ways that are tried
 * out one by one. RandomRunsTest compares the two.
 */
final class PlainBook {
    /** KIND, ARM, TALL, ROW, ON, TAB, WEAR. */
    private record Leaf(int kind, int arm, int tall, int row, int on, int tab, int wear) {
        Leaf withRow(int r) {
            return new Leaf(kind, arm, tall, r, on, tab, wear);
        }

        Leaf withTall(int t) {
            return new Leaf(kind, arm, t, row, on, tab, wear);
        }

        Leaf withTab(int p) {
            return new Leaf(kind, arm, tall, row, on, p, wear);
        }

        Leaf withWear(int w) {
            return new Leaf(kind, arm, tall, row, on, tab, Math.min(999, w));
        }

        Leaf withOn(int i) {
            return new Leaf(kind, arm, tall, row, i, tab, wear);
        }

        boolean stuck() {
            return wear >= BEARS[kind];
        }
    }

    private record State(int wide, int open, List<Leaf> leaves) {
    }

    private record All(State state, List<State> past, List<int[]> notes, List<int[]> stood) {
    }

    /** Thrown where a call is refused: how it counts and what it answers. */
    private static final class Refused extends RuntimeException {
        private static final long serialVersionUID = 1;
        private final int reason;
        private final int answer;

        Refused(int reason, int answer) {
            super(null, null, false, false);
            this.reason = reason;
            this.answer = answer;
        }
    }

    interface Call {
        long run();
    }

    private static final int[] BEARS = {150, 150, 200, 150, 400, 75};

    private int wide = 20;
    private int open = 0;
    private List<Leaf> leaves = new ArrayList<>();
    private List<State> past = new ArrayList<>();
    private List<int[]> notes = new ArrayList<>();
    private List<int[]> stood = new ArrayList<>();
    private final All[] images = new All[2];
    private String text = "";
    private long above = 0;
    private long below = 1;
    private final int[] refused = new int[3];

    private long guarded(Call call) {
        try {
            return call.run();
        } catch (Refused r) {
            refused[r.reason]++;
            return r.answer;
        }
    }

    private static void badUnless(boolean right) {
        if (!right) {
            throw new Refused(0, -2);
        }
    }

    private static void noIf(boolean so) {
        if (so) {
            throw new Refused(1, -3);
        }
    }

    private static void fullIf(boolean so) {
        if (so) {
            throw new Refused(2, -4);
        }
    }

    private static boolean in(int v, int low, int high) {
        return low <= v && v <= high;
    }

    private void piecePlease(int i) {
        badUnless(in(i, 0, leaves.size() - 1));
    }

    // ---- what is asked of a book

    static int rise(int kind, int t, int o, int p) {
        int vee = (int) Math.floor((double) t * o / 12);
        int boxAt = Math.min(2 * o, 2 * (12 - o));
        int box = (int) Math.floor((double) t * boxAt / 12);
        int flap = o >= 4 ? vee : 0;
        int[] all = {vee, o >= 6 ? vee + 1 : vee, box, flap, box / 2 + box % 2, flap == 0 ? 0 : flap + p};
        return all[kind];
    }

    static int reach(int kind, int a, int t) {
        int[] all = {t + a, t + a, t + 3 * a, t, t + 3 * a, t + 3};
        return all[kind];
    }

    private static int heightOf(List<Leaf> ls, int i, int o, int held) {
        Leaf l = ls.get(i);
        int own = l.stuck() || (held & 1 << i) != 0 ? 0 : rise(l.kind, l.tall, o, l.tab);
        return l.on < 0 ? own : own + heightOf(ls, l.on, o, held);
    }

    private static int seenOf(List<Leaf> ls, int o, int held) {
        int bits = 0;
        for (int i = 0; i < ls.size(); i++) {
            int h = heightOf(ls, i, o, held);
            boolean is = h > 0;
            for (int j = 0; j < ls.size(); j++) {
                if (ls.get(j).row < ls.get(i).row && heightOf(ls, j, o, held) >= h) {
                    is = false;
                }
            }
            bits += is ? 1 << i : 0;
        }
        return bits;
    }

    private int seenNow(int o) {
        return seenOf(leaves, o, 0);
    }

    private static List<Leaf> worn(List<Leaf> ls, int by) {
        List<Leaf> result = new ArrayList<>();
        for (Leaf l : ls) {
            result.add(l.stuck() ? l : l.withWear(l.wear + by));
        }
        return result;
    }

    private static List<Leaf> with(List<Leaf> ls, int i, Leaf l) {
        List<Leaf> result = new ArrayList<>(ls);
        result.set(i, l);
        return result;
    }

    private void push() {
        past.add(new State(wide, open, leaves));
        if (past.size() > 6) {
            past.remove(0);
        }
    }

    private void fresh(int w) {
        wide = w;
        open = 0;
        leaves = new ArrayList<>();
        past = new ArrayList<>();
        notes = new ArrayList<>();
        stood = new ArrayList<>();
    }

    // ---- the calls

    long book(int w) {
        return guarded(() -> {
            badUnless(in(w, 6, 40));
            int had = leaves.size();
            fresh(w);
            return had;
        });
    }

    long piece(int kind, int arm, int tall, int row, int on) {
        return guarded(() -> {
            badUnless(in(kind, 0, 5) && in(arm, 1, 9) && in(tall, 1, 9) && in(row, 0, 9)
                    && in(on, -1, leaves.size() - 1));
            fullIf(leaves.size() == 7);
            leaves = new ArrayList<>(leaves);
            leaves.add(new Leaf(kind, arm, tall, row, on, 0, 0));
            past = new ArrayList<>();
            return leaves.size() - 1;
        });
    }

    long type(int c) {
        return guarded(() -> {
            badUnless(in(c, 0, 127));
            fullIf(text.length() == 150);
            text += (char) c;
            return text.length();
        });
    }

    long clear() {
        int had = text.length();
        text = "";
        return had;
    }

    private record Token(String word, int at) {
    }

    private static List<Token> tokens(String text) {
        List<Token> result = new ArrayList<>();
        Matcher m = Pattern.compile("[a-z]+|[0-9]+|[^ ]", Pattern.DOTALL).matcher(text);
        while (m.find()) {
            result.add(new Token(m.group(), m.start()));
        }
        result.add(new Token("", text.length()));
        return result;
    }

    /** The greatest a number in this place of an item may be, and the least. */
    private static int[] bounds(String word, int place, int pieces) {
        int[][] leaf = {{0, 5}, {1, 9}, {1, 9}, {0, 9}, {0, pieces - 1}};
        switch (word) {
            case "book": return new int[] {6, 40};
            case "open": return new int[] {0, 12};
            case "pull": return place == 0 ? new int[] {0, pieces - 1} : new int[] {0, 3};
            default: return leaf[place];
        }
    }

    private static int numbersOf(String word) {
        switch (word) {
            case "book": case "open": return 1;
            case "pull": return 2;
            case "piece": return 4;
            case "on": return 5;
            default: return -1;
        }
    }

    long read() {
        List<Token> ts = tokens(text);
        int at = 0;
        int items = 0;
        int newWide = 0;
        int newOpen = 0;
        List<Leaf> ls = new ArrayList<>();
        while (items == 0 || !ts.get(at).word.isEmpty()) {
            String word = ts.get(at).word;
            boolean glues = word.equals("piece") || word.equals("on");
            if (numbersOf(word) < 0 || word.equals("book") != (items == 0) || glues && ls.size() == 7) {
                return -10 - ts.get(at).at;
            }
            at++;
            int[] n = new int[5];
            for (int place = 0; place < numbersOf(word); place++) {
                Token t = ts.get(at);
                int[] bounds = bounds(word, place, ls.size());
                if (!t.word.matches("[0-9]{1,2}") || !in(Integer.parseInt(t.word), bounds[0], bounds[1])) {
                    return -10 - t.at;
                }
                n[place] = Integer.parseInt(t.word);
                at++;
            }
            if (!ts.get(at).word.equals(";")) {
                return -10 - ts.get(at).at;
            }
            at++;
            items++;
            if (word.equals("book")) {
                newWide = n[0];
            } else if (word.equals("open")) {
                ls = worn(ls, Math.abs(n[0] - newOpen));
                newOpen = n[0];
            } else if (word.equals("pull")) {
                ls = with(ls, n[0], ls.get(n[0]).withTab(n[1]));
            } else {
                ls.add(new Leaf(n[0], n[1], n[2], n[3], word.equals("on") ? n[4] : -1, 0, 0));
            }
        }
        fresh(newWide);
        open = newOpen;
        leaves = ls;
        return items;
    }

    long opens(int o) {
        return guarded(() -> {
            badUnless(in(o, 0, 12));
            noIf(o == open);
            push();
            leaves = worn(leaves, Math.abs(o - open));
            open = o;
            return seenNow(o);
        });
    }

    long pulls(int i, int p) {
        return guarded(() -> {
            piecePlease(i);
            badUnless(in(p, 0, 3));
            int was = leaves.get(i).tab;
            noIf(was == p);
            push();
            leaves = with(leaves, i, leaves.get(i).withTab(p));
            return was;
        });
    }

    long tears(int i) {
        return guarded(() -> {
            piecePlease(i);
            push();
            notes = new ArrayList<>();
            stood = new ArrayList<>();
            int had = leaves.size();
            int[] number = new int[had];
            List<Leaf> left = new ArrayList<>();
            for (int j = 0; j < had; j++) {
                boolean gone = false;
                for (int k = j; k >= 0; k = leaves.get(k).on) {
                    gone |= k == i;
                }
                if (!gone) {
                    int on = leaves.get(j).on;
                    number[j] = left.size();
                    left.add(leaves.get(j).withOn(on < 0 ? -1 : number[on]));
                }
            }
            leaves = left;
            return had - left.size();
        });
    }

    long undo() {
        return guarded(() -> {
            noIf(past.isEmpty());
            State s = past.remove(past.size() - 1);
            wide = s.wide;
            open = s.open;
            leaves = s.leaves;
            return open;
        });
    }

    long of(int i, int what) {
        return guarded(() -> {
            piecePlease(i);
            badUnless(in(what, 0, 7));
            Leaf l = leaves.get(i);
            return new int[] {l.kind, l.arm, l.tall, l.row, l.on, l.tab, l.wear, l.stuck() ? 1 : 0}[what];
        });
    }

    long gives(int i, int o, int what) {
        return guarded(() -> {
            piecePlease(i);
            badUnless(in(o, 0, 12) && in(what, 0, 2));
            Leaf l = leaves.get(i);
            return new int[] {rise(l.kind, l.tall, o, l.tab), reach(l.kind, l.arm, l.tall), BEARS[l.kind]}[what];
        });
    }

    long height(int i, int o) {
        return guarded(() -> {
            piecePlease(i);
            badUnless(in(o, 0, 12));
            return heightOf(leaves, i, o, 0);
        });
    }

    long seen(int o) {
        return guarded(() -> {
            badUnless(in(o, 0, 12));
            return seenNow(o);
        });
    }

    long first(int i) {
        return guarded(() -> {
            piecePlease(i);
            for (int o = 0; o < 13; o++) {
                if ((seenNow(o) & 1 << i) != 0) {
                    return o;
                }
            }
            return -1;
        });
    }

    long best(int what) {
        return guarded(() -> {
            badUnless(in(what, 0, 1));
            for (int many = 7; ; many--) {
                for (int o = 0; o < 13; o++) {
                    if (Integer.bitCount(seenNow(o)) == many) {
                        return what == 0 ? o : many;
                    }
                }
            }
        });
    }

    private int outOf(int w) {
        int bits = 0;
        for (int i = 0; i < leaves.size(); i++) {
            int far = 0;
            for (int j = i; j >= 0; j = leaves.get(j).on) {
                far += reach(leaves.get(j).kind, leaves.get(j).arm, leaves.get(j).tall);
            }
            bits += far > w ? 1 << i : 0;
        }
        return bits;
    }

    long out(int what) {
        return guarded(() -> {
            badUnless(in(what, 0, 1));
            if (what == 0) {
                return outOf(wide);
            }
            for (int w = 6; w <= 40; w++) {
                if (outOf(w) == 0) {
                    return w;
                }
            }
            return -1;
        });
    }

    /** All ways at once, step by step: of those that come to like places the first one goes on. */
    private int[] shortestWay(int wanted) {
        Deque<int[]> ways = new ArrayDeque<>();
        Set<Integer> known = new HashSet<>();
        ways.add(new int[] {open});
        while (!ways.isEmpty()) {
            int[] way = ways.remove();
            int shown = 0;
            for (int o : way) {
                shown |= seenNow(o) & wanted;
            }
            int at = way[way.length - 1];
            if (shown == wanted) {
                return way;
            }
            if (!known.add(at * 128 + shown)) {
                continue;
            }
            for (int to = at - 1; to <= at + 1; to += 2) {
                if (in(to, 0, 12)) {
                    int[] longer = Arrays.copyOf(way, way.length + 1);
                    longer[way.length] = to;
                    ways.add(longer);
                }
            }
        }
        return null;
    }

    long tour(int pieces, int i) {
        return guarded(() -> {
            if (!in(pieces, 0, (1 << leaves.size()) - 1) || i < -1) {
                throw new Refused(0, -10);
            }
            int[] way = shortestWay(pieces);
            if (way == null) {
                return -1;
            }
            return i == -1 ? way.length - 1 : i < way.length ? way[i] : -5;
        });
    }

    long place(int i, int o, int what) {
        return guarded(() -> {
            piecePlease(i);
            badUnless(in(o, 0, 12) && in(what, 0, 1));
            int bestRow = 0;
            int most = -1;
            for (int row = 9; row >= 0; row--) {
                int many = Integer.bitCount(seenOf(with(leaves, i, leaves.get(i).withRow(row)), o, 0));
                if (many >= most) {
                    bestRow = row;
                    most = many;
                }
            }
            return what == 0 ? bestRow : most;
        });
    }

    long lasts() {
        int least = 100;
        for (Leaf l : leaves) {
            int more = Math.max(0, BEARS[l.kind] - l.wear);
            least = Math.min(least, (int) Math.ceil(more / 24.0));
        }
        return least == 100 ? -1 : least;
    }

    private boolean wins(int at, Set<Integer> gone, int i) {
        for (int by : new int[] {2, 1, -1, -2}) {
            if (wins(at + by, gone, i, at)) {
                return true;
            }
        }
        return false;
    }

    /** Whether who goes from at to this opening wins by it. */
    private boolean wins(int to, Set<Integer> gone, int i, int at) {
        if (!in(to, 0, 12) || gone.contains(to)) {
            return false;
        }
        if ((seenNow(to) & 1 << i) != 0) {
            return true;
        }
        Set<Integer> more = new HashSet<>(gone);
        more.add(to);
        return !wins(to, more, i);
    }

    long turns(int i, int what) {
        return guarded(() -> {
            piecePlease(i);
            badUnless(in(what, 0, 1));
            if ((seenNow(open) & 1 << i) != 0) {
                return what == 0 ? 2 : -1;
            }
            for (int to = 0; to < 13; to++) {
                if (Math.abs(to - open) <= 2 && wins(to, Set.of(open), i, open)) {
                    return what == 0 ? 1 : to;
                }
            }
            return what == 0 ? 0 : -1;
        });
    }

    long note(int i, int t, int o, int p, int x) {
        return guarded(() -> {
            piecePlease(i);
            badUnless(in(t, 1, 9) && in(o, 0, 12) && in(p, 0, 3) && in(x, 0, 20));
            fullIf(notes.size() == 6);
            notes.add(new int[] {i, t, o, p, x});
            return notes.size();
        });
    }

    long stood(int o, int pieces) {
        return guarded(() -> {
            badUnless(in(o, 0, 12) && in(pieces, 0, (1 << leaves.size()) - 1));
            fullIf(stood.size() == 6);
            stood.add(new int[] {o, pieces});
            return stood.size();
        });
    }

    long forget(int what) {
        return guarded(() -> {
            badUnless(in(what, 0, 1));
            List<int[]> list = what == 0 ? notes : stood;
            int had = list.size();
            list.clear();
            return had;
        });
    }

    private int kindsOf(int i) {
        int bits = 63;
        for (int[] n : notes) {
            for (int kind = 0; kind < 6; kind++) {
                if (n[0] == i && rise(kind, n[1], n[2], n[3]) != n[4]) {
                    bits &= ~(1 << kind);
                }
            }
        }
        return bits;
    }

    long is(int i) {
        return guarded(() -> {
            piecePlease(i);
            return kindsOf(i);
        });
    }

    long look(int i) {
        return guarded(() -> {
            piecePlease(i);
            int result = -1;
            int fewest = 7;
            for (int code = 0; code <= 123; code++) {
                if (code % 10 > 3 || kindsOf(i) == 0) {
                    continue;
                }
                int[] groups = new int[30];
                for (int kind = 0; kind < 6; kind++) {
                    if ((kindsOf(i) & 1 << kind) != 0) {
                        groups[rise(kind, leaves.get(i).tall, code / 10, code % 10)]++;
                    }
                }
                int most = Arrays.stream(groups).max().getAsInt();
                if (most < fewest) {
                    fewest = most;
                    result = code;
                }
            }
            return result;
        });
    }

    long where(int i, int what) {
        return guarded(() -> {
            piecePlease(i);
            badUnless(in(what, 0, 1));
            int bits = what == 0 ? 1023 : 1022;
            for (int v = what; v < 10; v++) {
                Leaf l = leaves.get(i);
                List<Leaf> other = with(leaves, i, what == 0 ? l.withRow(v) : l.withTall(v));
                for (int[] s : stood) {
                    if (seenOf(other, s[0], 0) != s[1]) {
                        bits &= ~(1 << v);
                    }
                }
            }
            return bits;
        });
    }

    private int pay(int who, int i, int j) {
        int o = Math.max(i, j);
        if (who == 0) {
            return Integer.bitCount(seenNow(o)) - i / 4;
        }
        int high = 0;
        for (int k = 0; k < leaves.size(); k++) {
            high = Math.max(high, heightOf(leaves, k, o, 0));
        }
        return high - j / 4;
    }

    long seats(int k) {
        return guarded(() -> {
            if (k < -1) {
                throw new Refused(0, -10);
            }
            int[][][] pays = new int[2][13][13];
            for (int pair = 0; pair < 169; pair++) {
                pays[0][pair / 13][pair % 13] = pay(0, pair / 13, pair % 13);
                pays[1][pair / 13][pair % 13] = pay(1, pair / 13, pair % 13);
            }
            List<Integer> resting = new ArrayList<>();
            for (int pair = 0; pair < 169; pair++) {
                boolean rests = true;
                for (int other = 0; other < 13; other++) {
                    rests &= pays[0][other][pair % 13] <= pays[0][pair / 13][pair % 13];
                    rests &= pays[1][pair / 13][other] <= pays[1][pair / 13][pair % 13];
                }
                if (rests) {
                    resting.add(pair);
                }
            }
            return k == -1 ? resting.size() : k < resting.size() ? resting.get(k) : -5;
        });
    }

    /** The mean times ten to the number of those that may lie, from piece i on. */
    private long mean(int i, int held, int o, int c) {
        if (i == leaves.size()) {
            return Integer.bitCount(seenOf(leaves, o, held));
        }
        if (leaves.get(i).stuck()) {
            return mean(i + 1, held, o, c);
        }
        return c * mean(i + 1, held | 1 << i, o, c) + (10 - c) * mean(i + 1, held, o, c);
    }

    long sticks(int o, int c) {
        return guarded(() -> {
            badUnless(in(o, 0, 12) && in(c, 0, 10));
            above = mean(0, 0, o, c);
            below = 1;
            for (Leaf l : leaves) {
                below *= l.stuck() ? 1 : 10;
            }
            for (long prime : new long[] {2, 5}) {
                while (above % prime == 0 && below % prime == 0) {
                    above /= prime;
                    below /= prime;
                }
            }
            return 1;
        });
    }

    long readers(int seed, int n) {
        return guarded(() -> {
            badUnless(in(seed, 0, 999999) && in(n, 0, 60));
            List<Leaf> ls = leaves;
            int at = open;
            long x = seed;
            int all = 0;
            for (int k = 0; k < n; k++) {
                x = (x * 1103515245L + 12345) & 0x7fffffffL;
                int o = (int) ((x >> 16) % 13);
                ls = worn(ls, Math.abs(o - at));
                at = o;
                all += Integer.bitCount(seenOf(ls, o, 0));
            }
            return all;
        });
    }

    long part(int what) {
        return guarded(() -> {
            badUnless(in(what, 0, 1));
            return what == 0 ? above : below;
        });
    }

    long image(int i) {
        return guarded(() -> {
            badUnless(in(i, 0, 1));
            images[i] = new All(new State(wide, open, leaves), List.copyOf(past), List.copyOf(notes),
                    List.copyOf(stood));
            return 1;
        });
    }

    long from(int i) {
        return guarded(() -> {
            badUnless(in(i, 0, 1));
            noIf(images[i] == null);
            wide = images[i].state.wide;
            open = images[i].state.open;
            leaves = images[i].state.leaves;
            past = new ArrayList<>(images[i].past);
            notes = new ArrayList<>(images[i].notes);
            stood = new ArrayList<>(images[i].stood);
            return 1;
        });
    }

    long status(int what) {
        if (!in(what, 0, 2)) {
            refused[0]++;
            return -1;
        }
        return refused[what];
    }

    long count(int what) {
        return guarded(() -> {
            badUnless(in(what, 0, 9));
            int stuck = 0;
            int wear = 0;
            for (Leaf l : leaves) {
                stuck += l.stuck() ? 1 : 0;
                wear += l.wear;
            }
            return new int[] {leaves.size(), open, wide, Integer.bitCount(seenNow(open)), stuck, wear, notes.size(),
                stood.size(), past.size(), text.length()}[what];
        });
    }

    long digest() {
        List<Long> values = new ArrayList<>();
        for (int what = 0; what < 10; what++) {
            values.add(count(what));
        }
        for (int i = 0; i < leaves.size(); i++) {
            for (int what = 0; what < 7; what++) {
                values.add(of(i, what));
            }
        }
        for (List<int[]> list : List.of(notes, stood)) {
            for (int[] row : list) {
                for (int v : row) {
                    values.add((long) v);
                }
            }
        }
        values.add(above);
        values.add(below);
        long h = 1511;
        for (long v : values) {
            h = 31 * h + v;
        }
        return h;
    }
}
