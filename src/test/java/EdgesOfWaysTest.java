/** Promises 18 to 21, a case each: tour, place, lasts, turns. */
public final class EdgesOfWaysTest {
    private static final int NONE = StandUpBook.NONE;
    private static final int NOW = 99;
    /** SEEN at 12 alone; at 6 alone; at 1 to 11; nowhere. */
    private static final String FOUR = "book 20;piece 0 1 1 0;piece 2 1 1 0;piece 2 1 9 0;piece 0 1 1 9;";

    public static void main(String[] args) {
        Cases.run(EdgesOfWaysTest.class);
    }

    // ---- 18: tour

    private static void way(Due due, StandUpBook x, int pieces, long... want) {
        due.is("how much", x.tour(pieces, NONE), want.length - 1);
        long[] got = new long[want.length];
        for (int i = 0; i < want.length; i++) {
            got[i] = x.tour(pieces, i);
        }
        due.all("the way", got, want);
        due.answers(x, "behind its last opening", () -> x.tour(pieces, want.length), -5);
    }

    static void p18_forNoPiecesToldNoStepIsGone(Due due) {
        way(due, Due.told(FOUR + "open 5;"), 0, 5);
    }

    static void p18_ofAnEmptyBook(Due due) {
        StandUpBook x = new StandUpBook();
        way(due, x, 0, 0);
        due.badBy(-10, x, "tour(1, -1)", () -> x.tour(1, NONE));
    }

    static void p18_seenAsItIsOpenNowNoStepIsGone(Due due) {
        way(due, Due.told(FOUR + "open 6;"), 2, 6);
        way(due, Due.told(FOUR + "open 12;"), 1, 12);
        way(due, Due.told(FOUR + "open 6;"), 6, 6);
    }

    static void p18_oneStep(Due due) {
        way(due, Due.told(FOUR + "open 11;"), 1, 11, 12);
        way(due, Due.told(FOUR + "open 7;"), 2, 7, 6);
        way(due, Due.told(FOUR + "open 12;"), 4, 12, 11);
        way(due, Due.told(FOUR), 4, 0, 1);
    }

    static void p18_fromShutToFlat(Due due) {
        way(due, Due.told(FOUR), 1, 0, 1, 2, 3, 4, 5, 6, 7, 8, 9, 10, 11, 12);
        way(due, Due.told(FOUR), 7, 0, 1, 2, 3, 4, 5, 6, 7, 8, 9, 10, 11, 12);
    }

    static void p18_fromFlatDown(Due due) {
        way(due, Due.told(FOUR + "open 12;"), 3, 12, 11, 10, 9, 8, 7, 6);
    }

    static void p18_toTheNearerSideFirst(Due due) {
        way(due, Due.told(FOUR + "open 10;"), 3, 10, 11, 12, 11, 10, 9, 8, 7, 6);
        way(due, Due.told(FOUR + "open 8;"), 3, 8, 7, 6, 7, 8, 9, 10, 11, 12);
    }

    static void p18_ofLikeWaysTheOneToALesserOpeningFirst(Due due) {
        way(due, Due.told(FOUR + "open 9;"), 3, 9, 8, 7, 6, 7, 8, 9, 10, 11, 12);
        // Behind the BOX, that is 1 at 6 alone, the VEE is SEEN at 5 and at 7.
        way(due, Due.told("book 20;piece 2 1 1 0;piece 0 1 3 1;open 6;"), 2, 6, 5);
    }

    static void p18_seenNowhereIsNoneWhateverIIs(Due due) {
        StandUpBook x = Due.told(FOUR + "open 3;");
        for (int i : new int[] {NONE, 0, 1, 12, 13, 1000, Integer.MAX_VALUE}) {
            due.answers(x, "tour(8, " + i + ")", () -> x.tour(8, i), NONE);
            due.answers(x, "tour(15, " + i + ")", () -> x.tour(15, i), NONE);
        }
    }

    static void p18_notSoManyIsMinus5AndNotRefused(Due due) {
        StandUpBook x = Due.told(FOUR + "open 11;");
        due.is("tour(1, 1)", x.tour(1, 1), 12);
        due.answers(x, "tour(1, 2)", () -> x.tour(1, 2), -5);
        due.answers(x, "tour(1, greatest)", () -> x.tour(1, Integer.MAX_VALUE), -5);
        due.answers(x, "tour(0, 1)", () -> x.tour(0, 1), -5);
    }

    static void p18_iBelowNoneIsBadByMinus10(Due due) {
        StandUpBook x = Due.told(FOUR);
        due.badBy(-10, x, "tour(1, -2)", () -> x.tour(1, -2));
        due.badBy(-10, x, "tour(1, least)", () -> x.tour(1, Integer.MIN_VALUE));
        due.badBy(-10, x, "tour(8, -2), SEEN nowhere", () -> x.tour(8, -2));
    }

    static void p18_piecesThatAreNotThereAreBadByMinus10(Due due) {
        StandUpBook x = Due.told(FOUR);
        due.is("tour(7, -1)", x.tour(7, NONE), 12);
        due.badBy(-10, x, "tour(16, -1)", () -> x.tour(16, NONE));
        due.badBy(-10, x, "tour(17, -1)", () -> x.tour(17, NONE));
        due.badBy(-10, x, "tour(-1, -1)", () -> x.tour(-1, NONE));
        due.badBy(-10, x, "tour(least, -1)", () -> x.tour(Integer.MIN_VALUE, NONE));
        due.badBy(-10, x, "tour(greatest, 0)", () -> x.tour(Integer.MAX_VALUE, 0));
    }

    static void p18_allSevenMayBeTold(Due due) {
        StandUpBook x = Due.told("book 9;piece 0 1 1 1;piece 0 1 1 1;piece 0 1 1 1;piece 0 1 1 1;piece 0 1 1 1;"
                + "piece 0 1 1 1;piece 0 1 1 1;open 10;");
        way(due, x, 127, 10, 11, 12);
        due.badBy(-10, x, "tour(128, -1)", () -> x.tour(128, NONE));
    }

    static void p18_wearDoesNotGrowInIt(Due due) {
        // The WHEEL bears 3 more, and is SEEN from 4 on.
        StandUpBook x = Due.told("book 20;piece 5 1 9 0;open 12;open 0;open 12;open 0;open 12;open 0;");
        due.is("WEAR", x.of(0, 6), 72);
        way(due, x, 1, 0, 1, 2, 3, 4);
        due.is("WEAR", x.of(0, 6), 72);
        due.is("OPEN", x.count(1), 0);
    }

    // ---- 19: place

    static void p19_ofNoneSeenIsRow0And0(Due due) {
        StandUpBook x = Due.told("book 20;piece 0 1 1 5;");
        due.answers(x, "place(0, 0, 0)", () -> x.place(0, 0, 0), 0);
        due.answers(x, "place(0, 0, 1)", () -> x.place(0, 0, 1), 0);
        due.answers(x, "place(0, 11, 0)", () -> x.place(0, 11, 0), 0);
    }

    static void p19_ofLikeOnesTheLeast(Due due) {
        StandUpBook x = Due.told("book 20;piece 0 1 1 5;");
        due.answers(x, "place(0, 12, 0)", () -> x.place(0, 12, 0), 0);
        due.answers(x, "place(0, 12, 1)", () -> x.place(0, 12, 1), 1);
    }

    static void p19_inTheRowOfAnotherOneNeitherHides(Due due) {
        StandUpBook x = Due.told("book 20;piece 0 1 6 0;piece 0 1 6 4;");
        due.is("place(0, 12, 0)", x.place(0, 12, 0), 4);
        due.is("place(0, 12, 1)", x.place(0, 12, 1), 2);
    }

    static void p19_mayBeRow9(Due due) {
        StandUpBook x = Due.told("book 20;piece 0 1 9 0;piece 0 1 3 9;");
        due.is("place(0, 12, 0)", x.place(0, 12, 0), 9);
        due.is("place(0, 12, 1)", x.place(0, 12, 1), 2);
    }

    static void p19_aStuckOneHasAPlaceToo(Due due) {
        StandUpBook x = Due.told("book 20;piece 5 1 9 7;piece 0 1 3 9;");
        Due.openToAndFro(x, 7);
        due.is("place(0, 12, 0)", x.place(0, 12, 0), 0);
        due.is("place(0, 12, 1)", x.place(0, 12, 1), 1);
    }

    static void p19_allOthersAndItsRowStay(Due due) {
        StandUpBook x = Due.told("book 20;piece 0 1 9 0;piece 0 1 3 9;");
        due.answers(x, "place(0, 12, 0)", () -> x.place(0, 12, 0), 9);
        due.is("of(0, 3)", x.of(0, 3), 0);
        due.is("of(1, 3)", x.of(1, 3), 9);
    }

    static void p19_aPieceThatIsNotThereIsBad(Due due) {
        StandUpBook x = Due.told("book 20;piece 0 1 1 0;piece 0 1 1 0;");
        due.badOutside(x, "place(.., 0, 0)", 0, 1, v -> x.place(v, 0, 0));
    }

    static void p19_ofAnEmptyBookIsBad(Due due) {
        StandUpBook x = new StandUpBook();
        due.bad(x, "place(0, 0, 0)", () -> x.place(0, 0, 0));
    }

    static void p19_anOpeningBelow0OrAbove12IsBad(Due due) {
        StandUpBook x = Due.told("book 20;piece 0 1 1 0;");
        due.badOutside(x, "place(0, .., 0)", 0, 12, v -> x.place(0, v, 0));
    }

    static void p19_whatBelow0OrAbove1IsBad(Due due) {
        StandUpBook x = Due.told("book 20;piece 0 1 1 0;");
        due.badOutside(x, "place(0, 0, ..)", 0, 1, v -> x.place(0, 0, v));
    }

    // ---- 20: lasts

    static void p20_ofNoPiecesIsNone(Due due) {
        StandUpBook x = new StandUpBook();
        due.answers(x, "lasts()", x::lasts, NONE);
    }

    static void p20_stuckNowIs0(Due due) {
        StandUpBook x = Due.told("book 20;piece 4 1 9 0;piece 5 1 9 0;");
        Due.openToAndFro(x, 7);
        due.answers(x, "lasts()", x::lasts, 0);
    }

    static void p20_ofNewOnes(Due due) {
        int[] times = {7, 7, 9, 7, 17, 4};
        for (int kind = 0; kind < 6; kind++) {
            due.is("KIND " + kind, Due.told("book 20;piece " + kind + " 1 9 0;").lasts(), times[kind]);
        }
    }

    static void p20_justAsMuchAsItBearsIsStuck(Due due) {
        StandUpBook x = Due.told("book 20;piece 0 1 9 0;open 6;");
        due.is("6 and 6 times 24 are 150", x.lasts(), 6);
        x = Due.told("book 20;piece 0 1 9 0;");
        Due.openToAndFro(x, 10);
        x.opens(6);
        due.is("126 and 24 are 150", x.lasts(), 1);
    }

    static void p20_oneLessIsNot(Due due) {
        StandUpBook x = Due.told("book 20;piece 0 1 9 0;open 5;");
        due.is("5 and 6 times 24 are 149", x.lasts(), 7);
        x = Due.told("book 20;piece 0 1 9 0;");
        Due.openToAndFro(x, 10);
        x.opens(5);
        due.is("125 and 24 are 149", x.lasts(), 2);
    }

    static void p20_theFirstOfSeveral(Due due) {
        StandUpBook x = Due.told("book 20;piece 4 1 9 0;piece 5 1 9 0;piece 0 1 9 0;");
        due.answers(x, "lasts()", x::lasts, 4);
    }

    static void p20_doesNotAskHowItIsOpenNow(Due due) {
        StandUpBook x = Due.told("book 20;open 12;piece 0 1 9 0;");
        due.answers(x, "lasts()", x::lasts, 7);
    }

    // ---- 21: turns

    /** From each opening: where to go first; NONE: who begins loses; NOW: SEEN at once. */
    private static void turnsOf(Due due, String text, int i, int... want) {
        for (int o = 0; o <= 12; o++) {
            StandUpBook x = Due.told(text + "open " + o + ";");
            int where = want[o] == NOW ? NONE : want[o];
            int whether = want[o] == NOW ? 2 : want[o] == NONE ? 0 : 1;
            due.answers(x, "turns(" + i + ", 0) from " + o, () -> x.turns(i, 0), whether);
            due.answers(x, "turns(" + i + ", 1) from " + o, () -> x.turns(i, 1), where);
        }
    }

    static void p21_seenNowhereWhoCannotGoHasLost(Due due) {
        turnsOf(due, FOUR, 3, NONE, NONE, NONE, NONE, NONE, NONE, NONE, NONE, NONE, NONE, NONE, NONE, NONE);
    }

    static void p21_seenAt12Alone(Due due) {
        turnsOf(due, FOUR, 0, 1, 0, 0, 1, 2, 3, 4, 5, 6, 7, 12, 12, NOW);
    }

    static void p21_seenAt6Alone(Due due) {
        turnsOf(due, FOUR, 1, 1, 0, 0, 1, 6, 6, NOW, 6, 6, 10, 9, 9, 10);
    }

    static void p21_seenEverywhereButShutAndFlat(Due due) {
        turnsOf(due, FOUR, 2, 1, NOW, NOW, NOW, NOW, NOW, NOW, NOW, NOW, NOW, NOW, NOW, 10);
    }

    static void p21_neverBelow0(Due due) {
        // SEEN from 2 on: from 0 and from 1 there is no other way out.
        turnsOf(due, "book 20;piece 0 1 6 0;", 0, 2, 2, NOW, NOW, NOW, NOW, NOW, NOW, NOW, NOW, NOW, NOW, NOW);
    }

    static void p21_ofSeveralTheLeast(Due due) {
        // SEEN at 11 and 12: from 10 both win at once, but 8 wins, too.
        turnsOf(due, "book 20;piece 2 1 9 0;piece 0 1 3 1;", 1,
                NONE, NONE, NONE, NONE, NONE, NONE, NONE, NONE, NONE, 7, 8, NOW, NOW);
    }

    static void p21_aStuckOneIsSeenNowhere(Due due) {
        StandUpBook x = Due.told("book 20;piece 5 1 9 0;");
        Due.openToAndFro(x, 7);
        due.answers(x, "turns(0, 0)", () -> x.turns(0, 0), 0);
        due.answers(x, "turns(0, 1)", () -> x.turns(0, 1), NONE);
    }

    static void p21_aPieceThatIsNotThereIsBad(Due due) {
        StandUpBook x = Due.told("book 20;piece 0 1 1 0;piece 0 1 1 0;");
        due.badOutside(x, "turns(.., 0)", 0, 1, v -> x.turns(v, 0));
    }

    static void p21_ofAnEmptyBookIsBad(Due due) {
        StandUpBook x = new StandUpBook();
        due.bad(x, "turns(0, 0)", () -> x.turns(0, 0));
    }

    static void p21_whatBelow0OrAbove1IsBad(Due due) {
        StandUpBook x = Due.told("book 20;piece 0 1 1 0;");
        due.badOutside(x, "turns(0, ..)", 0, 1, v -> x.turns(0, v));
    }
}
