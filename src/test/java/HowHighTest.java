/** Promises 12 to 21: gives, height, seen, first, best, out, tour, place, lasts, turns. */
public final class HowHighTest {
    private static final int NONE = StandUpBook.NONE;
    private static final Due due = new Due("HowHighTest");

    // Of one that is 7 TALL, its TAB pulled by 2, at each opening; a row for each of KINDS.
    private static final long[][] RISES = {
        {0, 0, 1, 1, 2, 2, 3, 4, 4, 5, 5, 6, 7},
        {0, 0, 1, 1, 2, 2, 4, 5, 5, 6, 6, 7, 8},
        {0, 1, 2, 3, 4, 5, 7, 5, 4, 3, 2, 1, 0},
        {0, 0, 0, 0, 2, 2, 3, 4, 4, 5, 5, 6, 7},
        {0, 1, 1, 2, 2, 3, 4, 3, 2, 2, 1, 1, 0},
        {0, 0, 0, 0, 4, 4, 5, 6, 6, 7, 7, 8, 9}};
    private static final int[] REACHES = {11, 11, 19, 7, 19, 10};
    private static final int[] BEARS = {150, 150, 200, 150, 400, 75};

    public static void main(String[] args) {
        givesOfKinds();
        givesRefuses();
        height();
        seen();
        first();
        best();
        out();
        leastPage();
        tour();
        tourOfLikeWays();
        tourRefuses();
        place();
        lasts();
        turns();
        nothingIsChanged();
        due.end();
    }

    private static void givesOfKinds() {
        for (int kind = 0; kind < 6; kind++) {
            StandUpBook x = Due.told("book 20;piece " + kind + " 4 7 0;pull 0 2;open 12;");
            long[] got = new long[13];
            for (int o = 0; o <= 12; o++) {
                got[o] = x.gives(0, o, 0);
            }
            due.all("what KIND " + kind + " RISES", got, RISES[kind]);
            due.is("what KIND " + kind + " REACHES", x.gives(0, 0, 1), REACHES[kind]);
            due.is("what KIND " + kind + " bears", x.gives(0, 12, 2), BEARS[kind]);
        }
        StandUpBook x = Due.told("book 20;piece 5 1 1 0;pull 0 3;");
        due.is("a WHEEL whose FLAP is 0", x.gives(0, 11, 0), 0);
        due.is("a WHEEL whose FLAP is 1", x.gives(0, 12, 0), 4);
    }

    private static void givesRefuses() {
        StandUpBook x = Due.told("book 20;piece 0 4 7 0;");
        due.is("gives(1, 0, 0)", x.gives(1, 0, 0), -2);
        due.is("gives(-1, 0, 0)", x.gives(-1, 0, 0), -2);
        due.is("gives(0, 13, 0)", x.gives(0, 13, 0), -2);
        due.is("gives(0, 13, 1)", x.gives(0, 13, 1), -2);
        due.is("gives(0, -1, 2)", x.gives(0, -1, 2), -2);
        due.is("gives(0, 0, 3)", x.gives(0, 0, 3), -2);
        due.is("gives(0, 0, -1)", x.gives(0, 0, -1), -2);
        due.status(x, 7, 0, 0);
    }

    private static void height() {
        StandUpBook x = Due.told("book 20;piece 0 1 6 0;on 2 1 6 1 0;on 3 1 9 2 1;piece 1 1 1 3;");
        due.is("height(0, 6)", x.height(0, 6), 3);
        due.is("height(1, 6)", x.height(1, 6), 9);
        due.is("height(2, 6)", x.height(2, 6), 13);
        due.is("height(3, 6)", x.height(3, 6), 1);
        due.is("height(2, 3)", x.height(2, 3), 4);
        due.is("height(2, 0)", x.height(2, 0), 0);
        due.is("height(4, 0)", x.height(4, 0), -2);
        due.is("height(-1, 0)", x.height(-1, 0), -2);
        due.is("height(0, 13)", x.height(0, 13), -2);
        due.is("height(0, -1)", x.height(0, -1), -2);
        due.status(x, 4, 0, 0);
    }

    private static void seen() {
        StandUpBook x = Due.told("book 20;piece 0 1 6 4;piece 0 1 6 4;piece 0 1 6 5;piece 0 1 7 6;piece 0 1 9 9;");
        due.is("like ones in a ROW, behind it, higher ones", x.seen(12), 1 + 2 + 8 + 16);
        due.is("a lesser one that is as HIGH hides", x.seen(6), 1 + 2 + 16);
        due.is("none is HIGH", x.seen(0), 0);
        due.is("seen(13)", x.seen(13), -2);
        due.is("seen(-1)", x.seen(-1), -2);
        due.status(x, 2, 0, 0);
        x = Due.told("book 20;piece 0 1 9 5;on 3 1 1 0 0;");
        due.is("what is ON one hides it, being as HIGH", x.seen(6), 2);
    }

    private static void first() {
        StandUpBook x = Due.told("book 20;piece 3 1 9 5;piece 0 1 1 5;piece 2 1 1 6;piece 2 1 9 9;");
        due.is("first(0)", x.first(0), 4);
        due.is("first(1)", x.first(1), 12);
        due.is("first(2), hidden", x.first(2), NONE);
        due.is("first(3)", x.first(3), 1);
        due.is("first(4)", x.first(4), -2);
        due.is("first(-1)", x.first(-1), -2);
        due.status(x, 2, 0, 0);
    }

    private static void best() {
        StandUpBook x = new StandUpBook();
        due.is("best(0) of none", x.best(0), 0);
        due.is("best(1) of none", x.best(1), 0);
        x = Due.told("book 20;piece 3 1 9 0;piece 2 1 2 0;piece 2 1 1 0;");
        due.is("best(0)", x.best(0), 6);
        due.is("best(1)", x.best(1), 3);
        due.is("tears(2)", x.tears(2), 1);
        due.is("best(0), the least of 4 .. 9", x.best(0), 4);
        due.is("best(1)", x.best(1), 2);
        due.is("best(2)", x.best(2), -2);
        due.is("best(-1)", x.best(-1), -2);
        due.status(x, 2, 0, 0);
    }

    private static void out() {
        StandUpBook x = Due.told("book 19;piece 2 4 7 0;piece 0 9 9 0;on 3 9 1 0 1;on 5 9 1 0 2;on 0 1 1 0 0;");
        due.is("out(0): 19, 18, 19, 23, 21", x.out(0), 8 + 16);
        due.is("out(1)", x.out(1), 23);
        due.is("out(2)", x.out(2), -2);
        due.is("out(-1)", x.out(-1), -2);
        due.status(x, 2, 0, 0);
    }

    private static void leastPage() {
        StandUpBook x = new StandUpBook();
        due.is("out(1) of none", x.out(1), 6);
        x = Due.told("book 6;piece 0 1 1 0;");
        due.is("out(1) of a small one", x.out(1), 6);
        x = Due.told("book 6;piece 2 9 9 0;on 3 1 4 0 0;");
        due.is("out(1)", x.out(1), 40);
        due.is("out(0)", x.out(0), 3);
        x.piece(3, 1, 1, 0, 1);
        due.is("out(1): 41", x.out(1), NONE);
        x = Due.told("book 6;piece 3 9 1 0;on 3 9 1 0 0;on 3 9 1 0 1;on 3 9 1 0 2;on 3 9 1 0 3;on 3 9 1 0 4;"
                + "on 3 9 1 0 5;");
        due.is("out(0) of seven ON one another", x.out(0), 64);
        due.is("out(1) of seven ON one another", x.out(1), 7);
    }

    private static void way(String name, StandUpBook x, int pieces, long... want) {
        due.is(name + ": how much", x.tour(pieces, NONE), want.length - 1);
        long[] got = new long[want.length];
        for (int i = 0; i < want.length; i++) {
            got[i] = x.tour(pieces, i);
        }
        due.all(name, got, want);
        due.is(name + ": behind it", x.tour(pieces, want.length), -5);
    }

    private static void tour() {
        StandUpBook x = Due.told("book 20;piece 0 1 1 0;piece 2 1 1 0;piece 2 1 9 0;piece 0 1 9 1;open 10;");
        way("up first", x, 3, 10, 11, 12, 11, 10, 9, 8, 7, 6);
        way("one", x, 2, 10, 9, 8, 7, 6);
        way("other", x, 1, 10, 11, 12);
        way("none told", x, 0, 10);
        way("SEEN as it is", x, 4, 10);
        way("as it is and above", x, 5, 10, 11, 12);
        x.opens(8);
        way("down first", x, 3, 8, 7, 6, 7, 8, 9, 10, 11, 12);
        x.opens(0);
        way("from shut", x, 7, 0, 1, 2, 3, 4, 5, 6, 7, 8, 9, 10, 11, 12);
        due.is("whatever i is", Due.told("book 20;piece 0 1 9 0;piece 0 1 9 1;").tour(2, 99), NONE);
        due.is("whatever i is", Due.told("book 20;piece 0 1 9 0;piece 0 1 9 1;").tour(3, NONE), NONE);
    }

    private static void tourOfLikeWays() {
        StandUpBook x = Due.told("book 20;piece 0 1 1 0;piece 2 1 1 0;open 9;");
        way("both ends as far", x, 3, 9, 8, 7, 6, 7, 8, 9, 10, 11, 12);
        x = Due.told("book 20;piece 2 1 1 0;piece 0 1 3 1;open 6;");
        due.is("hidden now", x.seen(6), 1);
        way("either way", x, 2, 6, 5);
    }

    private static void tourRefuses() {
        StandUpBook x = Due.told("book 20;piece 0 1 9 0;piece 0 1 9 1;");
        due.is("tour(-1, -1)", x.tour(-1, NONE), -10);
        due.is("tour(4, -1)", x.tour(4, NONE), -10);
        due.is("tour(0, -2)", x.tour(0, -2), -10);
        due.is("tour(2, -2)", x.tour(2, -2), -10);
        due.is("tour(0, 1)", x.tour(0, 1), -5);
        due.is("tour(0, greatest)", x.tour(0, Integer.MAX_VALUE), -5);
        due.status(x, 4, 0, 0);
    }

    private static void place() {
        StandUpBook x = Due.told("book 20;piece 0 1 6 5;piece 0 1 3 2;");
        due.is("place(0, 12, 0)", x.place(0, 12, 0), 2);
        due.is("place(0, 12, 1)", x.place(0, 12, 1), 2);
        due.is("place(1, 12, 0)", x.place(1, 12, 0), 0);
        due.is("place(1, 12, 1)", x.place(1, 12, 1), 2);
        due.is("place(1, 0, 0), none SEEN", x.place(1, 0, 0), 0);
        due.is("place(1, 0, 1), none SEEN", x.place(1, 0, 1), 0);
        due.is("ROW as it was", x.of(0, 3), 5);
        x = Due.told("book 20;piece 0 1 6 0;piece 0 1 3 9;");
        due.is("place(0, 12, 0), the greatest", x.place(0, 12, 0), 9);
        due.is("place(2, 0, 0)", x.place(2, 0, 0), -2);
        due.is("place(-1, 0, 0)", x.place(-1, 0, 0), -2);
        due.is("place(0, 13, 0)", x.place(0, 13, 0), -2);
        due.is("place(0, -1, 0)", x.place(0, -1, 0), -2);
        due.is("place(0, 0, 2)", x.place(0, 0, 2), -2);
        due.is("place(0, 0, -1)", x.place(0, 0, -1), -2);
        due.status(x, 6, 0, 0);
    }

    private static void lasts() {
        due.is("lasts() of none", new StandUpBook().lasts(), NONE);
        due.is("150 by 24", Due.told("book 20;piece 0 1 6 0;").lasts(), 7);
        due.is("144 by 24", Due.told("book 20;piece 0 1 6 0;open 6;").lasts(), 6);
        due.is("145 by 24", Due.told("book 20;piece 0 1 6 0;open 5;").lasts(), 7);
        due.is("the first one of several", Due.told("book 20;piece 4 1 6 0;piece 5 1 1 1;open 3;").lasts(), 3);
        due.is("a STAGE", Due.told("book 20;piece 4 1 6 0;").lasts(), 17);
        String worn = "book 20;piece 5 1 6 0;open 12;open 0;open 12;open 0;open 12;open 0;open 3;piece 4 1 1 0;";
        due.is("STUCK already", Due.told(worn).lasts(), 0);
    }

    private static void turns() {
        StandUpBook x = Due.told("book 20;piece 0 1 1 0;piece 0 1 1 1;piece 2 1 1 0;piece 3 1 9 0;open 10;");
        due.is("turns(0, 0), at once by 2", x.turns(0, 0), 1);
        due.is("turns(0, 1)", x.turns(0, 1), 12);
        due.is("turns(3, 0), SEEN now", x.turns(3, 0), 2);
        due.is("turns(3, 1)", x.turns(3, 1), NONE);
        x.opens(0);
        due.is("turns(0, 0) from shut", x.turns(0, 0), 1);
        due.is("turns(0, 1) from shut", x.turns(0, 1), 1);
        due.is("turns(1, 0), SEEN nowhere", x.turns(1, 0), 0);
        due.is("turns(1, 1)", x.turns(1, 1), NONE);
        x.opens(7);
        due.is("turns(2, 1)", x.turns(2, 1), 6);
        due.is("turns(4, 0)", x.turns(4, 0), -2);
        due.is("turns(-1, 0)", x.turns(-1, 0), -2);
        due.is("turns(0, 2)", x.turns(0, 2), -2);
        due.is("turns(0, -1)", x.turns(0, -1), -2);
        due.status(x, 4, 0, 0);
    }

    private static void nothingIsChanged() {
        StandUpBook x = Due.told("book 20;piece 5 1 9 0;on 4 2 8 1 0;piece 0 3 7 2;open 5;pull 0 1;");
        x.opens(9);
        long before = x.digest();
        x.gives(0, 3, 0);
        x.height(1, 4);
        x.seen(3);
        x.first(1);
        x.best(0);
        x.out(0);
        x.out(1);
        x.tour(7, NONE);
        x.tour(1, 1);
        x.place(1, 6, 0);
        x.lasts();
        x.turns(0, 0);
        x.turns(1, 1);
        due.unchanged("asking", x, before);
        due.status(x, 0, 0, 0);
    }
}
