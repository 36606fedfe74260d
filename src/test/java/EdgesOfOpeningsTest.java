/** Promises 7 to 11, a case each: opens, pulls, tears, undo, of. */
public final class EdgesOfOpeningsTest {
    private static final int NONE = StandUpBook.NONE;
    private static final int[] BEARS = {150, 150, 200, 150, 400, 75};

    public static void main(String[] args) {
        Cases.run(EdgesOfOpeningsTest.class);
    }

    /** One of a KIND, its WEAR one less than it bears. */
    private static StandUpBook wornButOne(int kind) {
        StandUpBook x = Due.told("book 20;piece " + kind + " 1 9 0;");
        Due.openToAndFro(x, BEARS[kind] / 12);
        int by = BEARS[kind] % 12 - 1;
        x.opens(x.count(1) == 0 ? by : 12 - by);
        return x;
    }

    // ---- 7: opens

    static void p07_to12AndTo0AreTaken(Due due) {
        StandUpBook x = new StandUpBook();
        due.is("opens(12)", x.opens(12), 0);
        due.is("count(1)", x.count(1), 12);
        due.is("opens(0)", x.opens(0), 0);
        due.is("count(1)", x.count(1), 0);
    }

    static void p07_below0OrAbove12IsBad(Due due) {
        StandUpBook x = Due.told("book 20;piece 0 1 9 0;open 5;");
        due.badOutside(x, "opens", 0, 12, x::opens);
    }

    static void p07_aNewOneIsOpenBy0Already(Due due) {
        StandUpBook x = new StandUpBook();
        due.no(x, "opens(0)", () -> x.opens(0));
    }

    static void p07_toWhereItIsOpenIsNo(Due due) {
        StandUpBook x = Due.told("book 20;piece 0 1 9 0;");
        for (int o = 1; o <= 12; o++) {
            int now = o;
            x.opens(o);
            due.no(x, "opens(" + o + ") again", () -> x.opens(now));
        }
    }

    static void p07_ofNoPiecesNoneIsSeen(Due due) {
        StandUpBook x = new StandUpBook();
        due.is("opens(6)", x.opens(6), 0);
    }

    static void p07_allSevenMayBeSeen(Due due) {
        StandUpBook x = Due.told("book 20;piece 0 1 1 0;piece 0 1 2 1;piece 0 1 3 2;piece 0 1 4 3;piece 0 1 5 4;"
                + "piece 0 1 6 5;piece 0 1 7 6;");
        due.is("opens(12)", x.opens(12), 127);
        due.is("opens(0)", x.opens(0), 0);
    }

    static void p07_wearsByHowMuchItChanges(Due due) {
        StandUpBook x = Due.told("book 20;piece 0 1 9 0;");
        x.opens(1);
        due.is("up by 1", x.of(0, 6), 1);
        x.opens(12);
        due.is("up by 11", x.of(0, 6), 12);
        x.opens(11);
        due.is("down by 1", x.of(0, 6), 13);
        x.opens(0);
        due.is("down by 11", x.of(0, 6), 24);
    }

    static void p07_oneLessWearThanItBearsIsNotStuck(Due due) {
        for (int kind = 0; kind < 6; kind++) {
            StandUpBook x = wornButOne(kind);
            due.is("WEAR of KIND " + kind, x.of(0, 6), BEARS[kind] - 1);
            due.is("STUCK of KIND " + kind, x.of(0, 7), 0);
            due.is("count(4)", x.count(4), 0);
            due.is("HEIGHT of KIND " + kind, x.height(0, 6), x.gives(0, 6, 0));
        }
    }

    static void p07_asMuchWearAsItBearsIsStuck(Due due) {
        for (int kind = 0; kind < 6; kind++) {
            StandUpBook x = wornButOne(kind);
            due.is("opens, KIND " + kind, x.opens(x.count(1) < 11 ? x.count(1) + 1 : 10), 0);
            due.is("WEAR of KIND " + kind, x.of(0, 6), BEARS[kind]);
            due.is("STUCK of KIND " + kind, x.of(0, 7), 1);
            due.is("count(4)", x.count(4), 1);
            due.is("HEIGHT of KIND " + kind, x.height(0, 6), 0);
        }
    }

    static void p07_wearMayGoAboveWhatItBears(Due due) {
        StandUpBook x = Due.told("book 20;piece 0 1 9 0;");
        Due.openToAndFro(x, 12);
        due.is("144", x.of(0, 6), 144);
        due.is("opens(12), STUCK by it", x.opens(12), 0);
        due.is("156", x.of(0, 6), 156);
        due.is("STUCK", x.of(0, 7), 1);
    }

    static void p07_aStuckOneWearsNoMoreButOthersDo(Due due) {
        StandUpBook x = Due.told("book 20;piece 5 1 9 0;piece 4 1 9 0;");
        Due.openToAndFro(x, 7);
        due.is("WHEEL", x.of(0, 6), 84);
        Due.openToAndFro(x, 40);
        due.is("WHEEL, STUCK long ago", x.of(0, 6), 84);
        due.is("STAGE, STUCK at 408: never near 999", x.of(1, 6), 408);
        due.is("count(5)", x.count(5), 492);
    }

    static void p07_seenIsToldWithTheNewWear(Due due) {
        StandUpBook x = Due.told("book 20;piece 5 1 9 0;piece 0 1 3 1;");
        Due.openToAndFro(x, 6);
        due.is("seen(6), the VEE hidden", x.seen(6), 1);
        due.is("opens(6): the WHEEL is STUCK by it", x.opens(6), 2);
    }

    static void p07_mayBeUndoneIfItWasNotRefused(Due due) {
        StandUpBook x = Due.told("book 20;piece 0 1 9 0;");
        x.opens(0);
        x.opens(13);
        due.is("count(8)", x.count(8), 0);
        x.opens(3);
        due.is("count(8)", x.count(8), 1);
    }

    static void p07_notesAndStoodStay(Due due) {
        StandUpBook x = Due.told("book 20;piece 0 1 9 0;");
        x.note(0, 1, 1, 1, 1);
        x.stood(1, 1);
        x.opens(3);
        due.is("count(6)", x.count(6), 1);
        due.is("count(7)", x.count(7), 1);
    }

    // ---- 8: pulls

    static void p08_by0To3IsTakenAndAnswersWhatItWas(Due due) {
        StandUpBook x = Due.told("book 20;piece 5 1 9 0;");
        due.is("pulls(0, 3)", x.pulls(0, 3), 0);
        due.is("pulls(0, 0)", x.pulls(0, 0), 3);
        due.is("pulls(0, 1)", x.pulls(0, 1), 0);
        due.is("pulls(0, 2)", x.pulls(0, 2), 1);
        due.is("of(0, 5)", x.of(0, 5), 2);
    }

    static void p08_below0OrAbove3IsBad(Due due) {
        StandUpBook x = Due.told("book 20;piece 5 1 9 0;");
        due.badOutside(x, "pulls(0, ..)", 0, 3, v -> x.pulls(0, v));
    }

    static void p08_aPieceThatIsNotThereIsBad(Due due) {
        StandUpBook x = Due.told("book 20;piece 5 1 9 0;piece 5 1 9 0;");
        due.badOutside(x, "pulls(.., 1)", 0, 1, v -> x.pulls(v, 1));
        due.badOutside(x, "pulls(.., 0), BAD ahead of NO", 0, 1, v -> x.pulls(v, 0));
    }

    static void p08_ofAnEmptyBookIsBad(Due due) {
        StandUpBook x = new StandUpBook();
        due.bad(x, "pulls(0, 1)", () -> x.pulls(0, 1));
    }

    static void p08_toWhereItIsPulledIsNo(Due due) {
        StandUpBook x = Due.told("book 20;piece 5 1 9 0;");
        due.no(x, "pulls(0, 0) at first", () -> x.pulls(0, 0));
        x.pulls(0, 3);
        due.no(x, "pulls(0, 3) again", () -> x.pulls(0, 3));
    }

    static void p08_theLastPieceAloneIsPulled(Due due) {
        StandUpBook x = Due.told("book 20;piece 5 1 9 0;piece 5 1 9 0;");
        due.is("pulls(1, 2)", x.pulls(1, 2), 0);
        due.is("of(0, 5)", x.of(0, 5), 0);
        due.is("of(1, 5)", x.of(1, 5), 2);
    }

    static void p08_aKindWithoutAWheelHasATabToo(Due due) {
        for (int kind = 0; kind < 5; kind++) {
            StandUpBook x = Due.told("book 20;piece " + kind + " 1 9 0;");
            int high = x.height(0, 6);
            due.is("pulls(0, 3) of KIND " + kind, x.pulls(0, 3), 0);
            due.is("of(0, 5)", x.of(0, 5), 3);
            due.is("HEIGHT as it was", x.height(0, 6), high);
        }
    }

    static void p08_aStuckOneIsPulledAndDoesNotRise(Due due) {
        StandUpBook x = Due.told("book 20;piece 5 1 9 0;");
        Due.openToAndFro(x, 7);
        due.is("pulls(0, 3)", x.pulls(0, 3), 0);
        due.is("height(0, 12)", x.height(0, 12), 0);
        due.is("gives(0, 12, 0), STUCK or not", x.gives(0, 12, 0), 12);
    }

    static void p08_doesNotWear(Due due) {
        StandUpBook x = Due.told("book 20;piece 5 1 9 0;open 5;");
        x.pulls(0, 3);
        due.is("of(0, 6)", x.of(0, 6), 5);
        due.is("count(1)", x.count(1), 5);
    }

    static void p08_mayBeUndoneIfItWasNotRefused(Due due) {
        StandUpBook x = Due.told("book 20;piece 5 1 9 0;");
        x.pulls(0, 0);
        x.pulls(0, 4);
        due.is("count(8)", x.count(8), 0);
        x.pulls(0, 3);
        due.is("count(8)", x.count(8), 1);
        due.is("undo()", x.undo(), 0);
        due.is("of(0, 5)", x.of(0, 5), 0);
    }

    // ---- 9: tears

    static void p09_theOnlyOne(Due due) {
        StandUpBook x = Due.told("book 20;piece 0 1 9 0;");
        due.is("tears(0)", x.tears(0), 1);
        due.is("count(0)", x.count(0), 0);
        due.bad(x, "tears(0) again", () -> x.tears(0));
    }

    static void p09_aPieceThatIsNotThereIsBad(Due due) {
        StandUpBook x = Due.told("book 20;piece 0 1 9 0;piece 0 1 9 0;");
        due.badOutside(x, "tears", 0, 1, x::tears);
    }

    static void p09_ofAnEmptyBookIsBad(Due due) {
        StandUpBook x = new StandUpBook();
        due.bad(x, "tears(0)", () -> x.tears(0));
    }

    static void p09_oneWithNoneOnItIs1(Due due) {
        StandUpBook x = Due.told("book 20;piece 0 1 9 0;on 1 1 9 0 0;on 2 1 9 0 0;");
        due.is("tears(2)", x.tears(2), 1);
        due.is("tears(1)", x.tears(1), 1);
        due.is("count(0)", x.count(0), 1);
    }

    static void p09_sevenOnOneAnotherAre7(Due due) {
        StandUpBook x = Due.told("book 9;piece 0 1 1 0;on 0 1 1 0 0;on 0 1 1 0 1;on 0 1 1 0 2;on 0 1 1 0 3;"
                + "on 0 1 1 0 4;on 0 1 1 0 5;");
        due.is("tears(0)", x.tears(0), 7);
        due.is("count(0)", x.count(0), 0);
    }

    static void p09_sevenSideBySideAre1(Due due) {
        StandUpBook x = Due.told("book 9;piece 0 1 1 0;piece 0 1 1 1;piece 0 1 1 2;piece 0 1 1 3;piece 0 1 1 4;"
                + "piece 0 1 1 5;piece 0 1 1 6;");
        due.is("tears(6)", x.tears(6), 1);
        due.is("tears(0)", x.tears(0), 1);
        due.is("count(0)", x.count(0), 5);
        due.is("ROW of the first one left", x.of(0, 3), 1);
        due.is("ROW of the last one left", x.of(4, 3), 5);
    }

    static void p09_whatItIsOnStays(Due due) {
        StandUpBook x = Due.told("book 9;piece 0 1 1 0;on 1 1 1 0 0;on 2 1 1 0 1;on 3 1 1 0 2;");
        due.is("tears(2)", x.tears(2), 2);
        due.is("count(0)", x.count(0), 2);
        due.is("of(1, 0)", x.of(1, 0), 1);
    }

    static void p09_thoseBehindItCountOn(Due due) {
        // 2 is ON 0, 3 ON 1, 4 ON 2, 5 ON 3: behind the tear of 0, 2, 4 they are 0, 1 (ON 0), 2 (ON 1).
        StandUpBook x = Due.told("book 20;piece 0 1 1 0;piece 1 2 2 1;on 2 3 3 2 0;on 3 4 4 3 1;on 4 5 5 4 2;"
                + "on 5 6 6 5 3;open 3;pull 5 2;");
        due.is("tears(0)", x.tears(0), 3);
        due.is("count(0)", x.count(0), 3);
        due.all("of(0, ..)", Due.ofAll(x, 0), 1, 2, 2, 1, NONE, 0, 3, 0);
        due.all("of(1, ..)", Due.ofAll(x, 1), 3, 4, 4, 3, 0, 0, 3, 0);
        due.all("of(2, ..)", Due.ofAll(x, 2), 5, 6, 6, 5, 1, 2, 3, 0);
        due.bad(x, "of(3, 0)", () -> x.of(3, 0));
    }

    static void p09_whatIsOnOneAheadOfItStaysOnThat(Due due) {
        StandUpBook x = Due.told("book 20;piece 0 1 1 0;piece 1 1 1 0;piece 2 1 1 0;on 3 1 1 0 0;on 4 1 1 0 1;");
        due.is("tears(2)", x.tears(2), 1);
        due.is("of(0, 4)", x.of(0, 4), NONE);
        due.is("of(1, 4)", x.of(1, 4), NONE);
        due.all("of(2, ..)", Due.ofAll(x, 2), 3, 1, 1, 0, 0, 0, 0, 0);
        due.all("of(3, ..)", Due.ofAll(x, 3), 4, 1, 1, 0, 1, 0, 0, 0);
    }

    static void p09_theOpeningAndThePageStay(Due due) {
        StandUpBook x = Due.told("book 33;piece 0 1 1 0;open 7;");
        x.tears(0);
        due.is("count(1)", x.count(1), 7);
        due.is("count(2)", x.count(2), 33);
    }

    static void p09_whatWasHiddenIsSeen(Due due) {
        StandUpBook x = Due.told("book 33;piece 0 1 9 0;piece 0 1 3 1;open 12;");
        due.is("seen(12)", x.seen(12), 1);
        x.tears(0);
        due.is("seen(12)", x.seen(12), 1);
        due.is("height(0, 12)", x.height(0, 12), 3);
    }

    static void p09_notesAndStoodAreNone(Due due) {
        StandUpBook x = Due.told("book 20;piece 0 1 9 0;piece 0 1 9 0;");
        x.note(0, 1, 1, 1, 1);
        x.stood(1, 1);
        x.tears(1);
        due.is("count(6)", x.count(6), 0);
        due.is("count(7)", x.count(7), 0);
        due.is("is(0)", x.is(0), 63);
    }

    static void p09_aRefusedOneKeepsNotesAndStood(Due due) {
        StandUpBook x = Due.told("book 20;piece 0 1 9 0;");
        x.note(0, 1, 1, 1, 1);
        x.stood(1, 1);
        x.tears(1);
        due.is("count(6)", x.count(6), 1);
        due.is("count(7)", x.count(7), 1);
        due.is("count(8)", x.count(8), 0);
    }

    // ---- 10: undo

    static void p10_ofNoneIsNo(Due due) {
        StandUpBook x = new StandUpBook();
        due.no(x, "undo()", x::undo);
    }

    static void p10_ofAnOpeningTakesWearBack(Due due) {
        StandUpBook x = Due.told("book 20;piece 5 1 9 0;open 3;");
        long before = x.digest();
        x.opens(12);
        due.is("undo()", x.undo(), 3);
        due.unchanged("undo()", x, before);
    }

    static void p10_ofAnOpeningThatStuckOneUnsticksIt(Due due) {
        StandUpBook x = wornButOne(5);
        int o = x.count(1);
        x.opens(o + 1);
        due.is("STUCK", x.of(0, 7), 1);
        due.is("undo()", x.undo(), o);
        due.is("STUCK", x.of(0, 7), 0);
    }

    static void p10_ofAPullAnswersTheOpeningAsItIs(Due due) {
        StandUpBook x = Due.told("book 20;piece 5 1 9 0;open 3;");
        long before = x.digest();
        x.pulls(0, 3);
        due.is("undo()", x.undo(), 3);
        due.unchanged("undo()", x, before);
    }

    static void p10_ofATearBringsAllBack(Due due) {
        StandUpBook x = Due.told("book 20;piece 5 1 9 0;on 0 2 3 4 0;piece 1 2 3 4;on 2 3 4 5 2;open 3;pull 1 2;");
        long before = x.digest();
        due.is("tears(0)", x.tears(0), 2);
        due.is("undo()", x.undo(), 3);
        due.unchanged("undo()", x, before);
    }

    static void p10_ofATearDoesNotBringNotesAndStoodBack(Due due) {
        StandUpBook x = Due.told("book 20;piece 0 1 9 0;piece 0 1 9 0;");
        x.note(0, 1, 1, 1, 1);
        x.stood(1, 1);
        x.tears(1);
        x.undo();
        due.is("count(0)", x.count(0), 2);
        due.is("count(6)", x.count(6), 0);
        due.is("count(7)", x.count(7), 0);
    }

    static void p10_keepsNotesAndStoodThatCameSince(Due due) {
        StandUpBook x = Due.told("book 20;piece 0 1 9 0;");
        x.opens(3);
        x.note(0, 1, 1, 1, 1);
        x.stood(1, 1);
        due.is("undo()", x.undo(), 0);
        due.is("count(6)", x.count(6), 1);
        due.is("count(7)", x.count(7), 1);
    }

    static void p10_doesNotBringForgottenNotesBack(Due due) {
        StandUpBook x = Due.told("book 20;piece 0 1 9 0;");
        x.note(0, 1, 1, 1, 1);
        x.stood(1, 1);
        x.opens(3);
        x.forget(0);
        x.forget(1);
        due.is("undo()", x.undo(), 0);
        due.is("count(6)", x.count(6), 0);
        due.is("count(7)", x.count(7), 0);
    }

    static void p10_sixAreUndoneOneByOne(Due due) {
        StandUpBook x = Due.told("book 20;piece 5 1 9 0;piece 5 1 9 0;");
        x.opens(1);
        x.pulls(0, 1);
        x.opens(2);
        x.pulls(0, 2);
        x.tears(1);
        x.opens(3);
        due.is("count(8)", x.count(8), 6);
        due.is("undo() of opens(3)", x.undo(), 2);
        due.is("undo() of tears(1)", x.undo(), 2);
        due.is("count(0)", x.count(0), 2);
        due.is("undo() of pulls(0, 2)", x.undo(), 2);
        due.is("of(0, 5)", x.of(0, 5), 1);
        due.is("undo() of opens(2)", x.undo(), 1);
        due.is("undo() of pulls(0, 1)", x.undo(), 1);
        due.is("of(0, 5)", x.of(0, 5), 0);
        due.is("undo() of opens(1)", x.undo(), 0);
        due.is("count(8)", x.count(8), 0);
        due.no(x, "a seventh undo()", x::undo);
    }

    static void p10_ofSevenTheFirstMayNotBeUndone(Due due) {
        StandUpBook x = Due.told("book 20;piece 0 1 9 0;");
        for (int o = 1; o <= 7; o++) {
            x.opens(o);
        }
        due.is("count(8)", x.count(8), 6);
        for (int o = 6; o >= 1; o--) {
            due.is("undo()", x.undo(), o);
            due.is("WEAR", x.of(0, 6), o);
        }
        due.no(x, "a seventh undo()", x::undo);
        due.is("count(1)", x.count(1), 1);
    }

    static void p10_ofTwentyTheLastSixMayBeUndone(Due due) {
        StandUpBook x = new StandUpBook();
        for (int time = 1; time <= 20; time++) {
            x.opens(time % 13);
        }
        for (int time = 19; time >= 14; time--) {
            due.is("undo()", x.undo(), time % 13);
        }
        due.no(x, "a seventh undo()", x::undo);
    }

    static void p10_isNotUndoneItself(Due due) {
        StandUpBook x = new StandUpBook();
        x.opens(5);
        x.opens(7);
        due.is("undo()", x.undo(), 5);
        due.is("undo()", x.undo(), 0);
        due.no(x, "undo()", x::undo);
    }

    static void p10_behindAnUndoItGoesOnFromThere(Due due) {
        StandUpBook x = new StandUpBook();
        x.opens(5);
        x.opens(7);
        x.undo();
        x.opens(9);
        due.is("count(8)", x.count(8), 2);
        due.is("undo()", x.undo(), 5);
        due.is("undo()", x.undo(), 0);
    }

    static void p10_behindAPieceThatComesIsNo(Due due) {
        StandUpBook x = new StandUpBook();
        x.opens(5);
        x.piece(0, 1, 1, 0, NONE);
        due.no(x, "undo()", x::undo);
        x.opens(7);
        due.is("undo() of one behind it", x.undo(), 5);
        due.no(x, "undo()", x::undo);
    }

    static void p10_behindABookIsNo(Due due) {
        StandUpBook x = new StandUpBook();
        x.opens(5);
        x.book(20);
        due.no(x, "undo()", x::undo);
    }

    static void p10_refusedCallsAreNotUndone(Due due) {
        StandUpBook x = Due.told("book 20;piece 0 1 9 0;");
        x.opens(5);
        x.opens(5);
        x.opens(13);
        x.pulls(0, 0);
        x.pulls(0, 4);
        x.tears(1);
        due.is("count(8)", x.count(8), 1);
        due.is("undo()", x.undo(), 0);
    }

    static void p10_whatIsAskedIsNotUndone(Due due) {
        StandUpBook x = Due.told("book 20;piece 0 1 9 0;");
        x.opens(5);
        x.note(0, 1, 1, 1, 1);
        x.stood(1, 1);
        x.sticks(6, 3);
        x.readers(1, 60);
        x.image(0);
        due.is("count(8)", x.count(8), 1);
        due.is("undo()", x.undo(), 0);
    }

    static void p10_theTextAndTheFractionStay(Due due) {
        StandUpBook x = Due.told("book 20;piece 0 1 9 0;");
        x.opens(5);
        x.sticks(12, 3);
        x.type('x');
        x.undo();
        due.is("count(9)", x.count(9), 23);
        due.is("part(0)", x.part(0), 7);
    }

    // ---- 11: of

    static void p11_everyWhatFrom0To7(Due due) {
        StandUpBook x = Due.told("book 20;piece 0 1 1 0;on 5 4 3 2 0;pull 1 3;open 7;");
        due.all("of(0, ..)", Due.ofAll(x, 0), 0, 1, 1, 0, NONE, 0, 7, 0);
        due.all("of(1, ..)", Due.ofAll(x, 1), 5, 4, 3, 2, 0, 3, 7, 0);
    }

    static void p11_whatBelow0OrAbove7IsBad(Due due) {
        StandUpBook x = Due.told("book 20;piece 0 1 1 0;");
        due.badOutside(x, "of(0, ..)", 0, 7, v -> x.of(0, v));
    }

    static void p11_aPieceThatIsNotThereIsBad(Due due) {
        StandUpBook x = Due.told("book 20;piece 0 1 1 0;piece 0 1 1 0;");
        due.badOutside(x, "of(.., 0)", 0, 1, v -> x.of(v, 0));
    }

    static void p11_ofAnEmptyBookIsBad(Due due) {
        StandUpBook x = new StandUpBook();
        for (int what = 0; what < 8; what++) {
            int now = what;
            due.bad(x, "of(0, " + what + ")", () -> x.of(0, now));
        }
    }

    static void p11_aTornPieceIsBad(Due due) {
        StandUpBook x = Due.told("book 20;piece 0 1 1 0;piece 1 1 1 0;");
        x.tears(0);
        due.is("of(0, 0)", x.of(0, 0), 1);
        due.bad(x, "of(1, 0)", () -> x.of(1, 0));
    }

    static void p11_theLastOfSevenIsThere(Due due) {
        StandUpBook x = Due.told("book 9;piece 0 1 1 0;piece 0 1 1 1;piece 0 1 1 2;piece 0 1 1 3;piece 0 1 1 4;"
                + "piece 0 1 1 5;piece 3 4 5 6;");
        due.all("of(6, ..)", Due.ofAll(x, 6), 3, 4, 5, 6, NONE, 0, 0, 0);
        due.bad(x, "of(7, 0)", () -> x.of(7, 0));
    }

    static void p11_stuckIs0BelowAnd1FromWhatItBears(Due due) {
        StandUpBook x = wornButOne(0);
        due.is("of(0, 7)", x.of(0, 7), 0);
        x.opens(x.count(1) + 1);
        due.is("of(0, 7)", x.of(0, 7), 1);
    }
}
