/** Promises 22 to 27, a case each: note, stood, forget, is, look, where. */
public final class EdgesOfWhatItWasTest {
    private static final int NONE = StandUpBook.NONE;
    private static final String TWO = "book 20;piece 0 1 6 5;piece 0 1 3 4;";
    private static final String SEVEN = "book 9;piece 0 1 1 1;piece 0 1 1 1;piece 0 1 1 1;piece 0 1 1 1;"
            + "piece 0 1 1 1;piece 0 1 1 1;piece 0 1 1 1;";

    public static void main(String[] args) {
        Cases.run(EdgesOfWhatItWasTest.class);
    }

    private static StandUpBook withSixNotes() {
        StandUpBook x = Due.told(TWO);
        for (int n = 0; n < 6; n++) {
            x.note(0, 9, 0, 0, 0);
        }
        return x;
    }

    private static StandUpBook withSixStood() {
        StandUpBook x = Due.told(TWO);
        for (int n = 0; n < 6; n++) {
            x.stood(0, 0);
        }
        return x;
    }

    // ---- 22: note

    static void p22_theLeastNumbersAreTaken(Due due) {
        StandUpBook x = Due.told(TWO);
        due.is("note(0, 1, 0, 0, 0)", x.note(0, 1, 0, 0, 0), 1);
        due.is("count(6)", x.count(6), 1);
    }

    static void p22_theGreatestNumbersAreTaken(Due due) {
        StandUpBook x = Due.told(TWO);
        due.is("note(1, 9, 12, 3, 20)", x.note(1, 9, 12, 3, 20), 1);
        due.is("count(6)", x.count(6), 1);
    }

    static void p22_aPieceThatIsNotThereIsBad(Due due) {
        StandUpBook x = Due.told(TWO);
        due.badOutside(x, "note, PIECE", 0, 1, v -> x.note(v, 1, 0, 0, 0));
    }

    static void p22_ofAnEmptyBookIsBad(Due due) {
        StandUpBook x = new StandUpBook();
        due.bad(x, "note(0, 1, 0, 0, 0)", () -> x.note(0, 1, 0, 0, 0));
    }

    static void p22_tallBelow1OrAbove9IsBad(Due due) {
        StandUpBook x = Due.told(TWO);
        due.badOutside(x, "note, TALL", 1, 9, v -> x.note(0, v, 0, 0, 0));
    }

    static void p22_anOpeningBelow0OrAbove12IsBad(Due due) {
        StandUpBook x = Due.told(TWO);
        due.badOutside(x, "note, opening", 0, 12, v -> x.note(0, 1, v, 0, 0));
    }

    static void p22_aTabBelow0OrAbove3IsBad(Due due) {
        StandUpBook x = Due.told(TWO);
        due.badOutside(x, "note, TAB", 0, 3, v -> x.note(0, 1, 0, v, 0));
    }

    static void p22_aRiseBelow0OrAbove20IsBad(Due due) {
        StandUpBook x = Due.told(TWO);
        due.badOutside(x, "note, how much it ROSE", 0, 20, v -> x.note(0, 1, 0, 0, v));
    }

    static void p22_theSixthIsTaken(Due due) {
        StandUpBook x = Due.told(TWO);
        for (int many = 1; many <= 6; many++) {
            due.is("note", x.note(0, 1, 0, 0, 0), many);
        }
    }

    static void p22_aSeventhIsFull(Due due) {
        StandUpBook x = withSixNotes();
        due.full(x, "a 7th note", () -> x.note(0, 1, 0, 0, 0));
        due.full(x, "a 7th note of another piece", () -> x.note(1, 9, 12, 3, 20));
    }

    static void p22_badComesAheadOfFull(Due due) {
        StandUpBook x = withSixNotes();
        due.bad(x, "a 7th note of no piece", () -> x.note(2, 1, 0, 0, 0));
        due.bad(x, "a 7th note, 0 TALL", () -> x.note(0, 0, 0, 0, 0));
        due.bad(x, "a 7th note at 13", () -> x.note(0, 1, 13, 0, 0));
        due.bad(x, "a 7th note, pulled by 4", () -> x.note(0, 1, 0, 4, 0));
        due.bad(x, "a 7th note of 21", () -> x.note(0, 1, 0, 0, 21));
    }

    static void p22_isTakenAgainBehindForget(Due due) {
        StandUpBook x = withSixNotes();
        x.forget(0);
        due.is("note", x.note(0, 1, 0, 0, 0), 1);
    }

    static void p22_fullOfNotesIsNotFullOfStood(Due due) {
        StandUpBook x = withSixNotes();
        due.is("stood(0, 0)", x.stood(0, 0), 1);
    }

    // ---- 23: stood

    static void p23_at0AndAt12AreTaken(Due due) {
        StandUpBook x = Due.told(TWO);
        due.is("stood(0, 0)", x.stood(0, 0), 1);
        due.is("stood(12, 3)", x.stood(12, 3), 2);
        due.is("count(7)", x.count(7), 2);
    }

    static void p23_anOpeningBelow0OrAbove12IsBad(Due due) {
        StandUpBook x = Due.told(TWO);
        due.badOutside(x, "stood, opening", 0, 12, v -> x.stood(v, 0));
    }

    static void p23_piecesThatAreNotThereAreBad(Due due) {
        StandUpBook x = Due.told(TWO);
        due.badOutside(x, "stood, PIECES", 0, 3, v -> x.stood(0, v));
        due.bad(x, "stood(0, 5)", () -> x.stood(0, 5));
    }

    static void p23_ofAnEmptyBookNoneStood(Due due) {
        StandUpBook x = new StandUpBook();
        due.is("stood(6, 0)", x.stood(6, 0), 1);
        due.bad(x, "stood(6, 1)", () -> x.stood(6, 1));
    }

    static void p23_allSevenStood(Due due) {
        StandUpBook x = Due.told(SEVEN);
        due.is("stood(12, 127)", x.stood(12, 127), 1);
        due.bad(x, "stood(12, 128)", () -> x.stood(12, 128));
    }

    static void p23_theSixthIsTaken(Due due) {
        StandUpBook x = Due.told(TWO);
        for (int many = 1; many <= 6; many++) {
            due.is("stood", x.stood(6, 1), many);
        }
    }

    static void p23_aSeventhIsFull(Due due) {
        StandUpBook x = withSixStood();
        due.full(x, "a 7th stood", () -> x.stood(0, 0));
    }

    static void p23_badComesAheadOfFull(Due due) {
        StandUpBook x = withSixStood();
        due.bad(x, "a 7th stood at 13", () -> x.stood(13, 0));
        due.bad(x, "a 7th stood of no piece", () -> x.stood(0, 4));
    }

    static void p23_isTakenAgainBehindForget(Due due) {
        StandUpBook x = withSixStood();
        x.forget(1);
        due.is("stood", x.stood(0, 0), 1);
    }

    static void p23_fullOfStoodIsNotFullOfNotes(Due due) {
        StandUpBook x = withSixStood();
        due.is("note", x.note(0, 1, 0, 0, 0), 1);
    }

    // ---- 24: forget

    static void p24_noneWereThere(Due due) {
        StandUpBook x = new StandUpBook();
        due.answers(x, "forget(0)", () -> x.forget(0), 0);
        due.answers(x, "forget(1)", () -> x.forget(1), 0);
    }

    static void p24_sixNotesAndStoodStays(Due due) {
        StandUpBook x = withSixNotes();
        x.stood(0, 0);
        due.is("forget(0)", x.forget(0), 6);
        due.is("count(6)", x.count(6), 0);
        due.is("count(7)", x.count(7), 1);
        due.is("forget(0) again", x.forget(0), 0);
    }

    static void p24_sixStoodAndNotesStay(Due due) {
        StandUpBook x = withSixStood();
        x.note(0, 1, 0, 0, 0);
        due.is("forget(1)", x.forget(1), 6);
        due.is("count(7)", x.count(7), 0);
        due.is("count(6)", x.count(6), 1);
        due.is("forget(1) again", x.forget(1), 0);
    }

    static void p24_whatBelow0OrAbove1IsBad(Due due) {
        StandUpBook x = withSixNotes();
        x.stood(0, 0);
        due.badOutside(x, "forget", 0, 1, x::forget);
    }

    static void p24_whatWasForgottenCountsNoMore(Due due) {
        StandUpBook x = Due.told(TWO);
        x.note(0, 9, 12, 0, 20);
        x.stood(12, 0);
        x.forget(0);
        x.forget(1);
        due.is("is(0)", x.is(0), 63);
        due.is("where(0, 0)", x.where(0, 0), 1023);
    }

    // ---- 25: is

    private static void isBy(Due due, int t, int o, int p, int x, int want) {
        StandUpBook book = Due.told(TWO);
        book.note(0, t, o, p, x);
        due.answers(book, "is(0) by " + t + ", " + o + ", " + p + ", " + x, () -> book.is(0), want);
    }

    static void p25_byNoNotesAllKinds(Due due) {
        StandUpBook x = Due.told(TWO);
        due.answers(x, "is(0)", () -> x.is(0), 63);
    }

    static void p25_shutAllKindsRise0(Due due) {
        isBy(due, 9, 0, 3, 0, 63);
        isBy(due, 9, 0, 3, 1, 0);
    }

    static void p25_flatBoxAndStageRise0(Due due) {
        isBy(due, 9, 12, 0, 0, 4 + 16);
        isBy(due, 9, 12, 0, 9, 1 + 8 + 32);
        isBy(due, 9, 12, 0, 10, 2);
        isBy(due, 9, 12, 3, 12, 32);
    }

    static void p25_flapAndWheelDifferFromVeeBelow4(Due due) {
        isBy(due, 9, 3, 3, 0, 8 + 32);
        isBy(due, 9, 3, 3, 2, 1 + 2 + 16);
        isBy(due, 9, 3, 3, 4, 4);
        isBy(due, 9, 4, 3, 3, 1 + 2 + 8 + 16);
        isBy(due, 9, 4, 3, 6, 4 + 32);
    }

    static void p25_tentDiffersFromVeeFrom6On(Due due) {
        isBy(due, 9, 5, 0, 3, 1 + 2 + 8 + 32);
        isBy(due, 9, 6, 0, 4, 1 + 8 + 32);
        isBy(due, 9, 6, 0, 5, 2 + 16);
    }

    static void p25_noKindRisesBy20(Due due) {
        isBy(due, 9, 12, 3, 20, 0);
    }

    static void p25_byAllNotesOfIt(Due due) {
        StandUpBook x = Due.told(TWO);
        x.note(0, 9, 4, 3, 6);
        due.is("BOX, WHEEL", x.is(0), 4 + 32);
        x.note(0, 9, 3, 3, 0);
        due.is("WHEEL", x.is(0), 32);
        x.note(0, 9, 3, 3, 4);
        due.is("no KIND", x.is(0), 0);
    }

    static void p25_notesOfOthersDoNotCount(Due due) {
        StandUpBook x = Due.told(TWO);
        x.note(1, 9, 12, 3, 20);
        due.is("is(0)", x.is(0), 63);
        due.is("is(1)", x.is(1), 0);
    }

    static void p25_isNotAboutTheKindThatItHasNow(Due due) {
        // A WHEEL, STUCK: the NOTE tells of a TENT all the same.
        StandUpBook x = Due.told("book 20;piece 5 1 1 0;");
        Due.openToAndFro(x, 7);
        x.note(0, 9, 12, 0, 10);
        due.is("is(0)", x.is(0), 2);
    }

    static void p25_aPieceThatIsNotThereIsBad(Due due) {
        StandUpBook x = Due.told(TWO);
        due.badOutside(x, "is", 0, 1, x::is);
    }

    static void p25_ofAnEmptyBookIsBad(Due due) {
        StandUpBook x = new StandUpBook();
        due.bad(x, "is(0)", () -> x.is(0));
    }

    // ---- 26: look

    static void p26_ofNoKindIsNone(Due due) {
        StandUpBook x = Due.told(TWO);
        x.note(0, 9, 12, 3, 20);
        due.answers(x, "look(0)", () -> x.look(0), NONE);
    }

    static void p26_ofOneKindIsOpening0(Due due) {
        StandUpBook x = Due.told(TWO);
        x.note(0, 9, 12, 3, 12);
        due.answers(x, "look(0) of a WHEEL", () -> x.look(0), 0);
    }

    static void p26_ofKindsThatNeverDifferIsOpening0(Due due) {
        // VEE and FLAP: 3 TALL both are 0 below 4, and alike from there on.
        StandUpBook x = Due.told("book 20;piece 0 1 3 0;piece 0 1 4 0;");
        for (int i = 0; i < 2; i++) {
            x.note(i, 7, 6, 2, 3);
            due.is("VEE, FLAP", x.is(i), 1 + 8);
        }
        due.is("look(0), 3 TALL", x.look(0), 0);
        due.is("look(1), 4 TALL: 1 and 0 at 3", x.look(1), 30);
    }

    static void p26_asTallAsItIsAndNotAsNoted(Due due) {
        // FLAP and WHEEL differ where FLAP is 1 or more, pulled by 1: 1 TALL at 12, 9 TALL at 4.
        StandUpBook x = Due.told("book 20;piece 0 1 1 0;piece 0 1 9 0;");
        x.note(0, 9, 3, 0, 0);
        x.note(1, 9, 3, 0, 0);
        due.is("FLAP, WHEEL", x.is(0), 8 + 32);
        due.is("look(0), 1 TALL", x.look(0), 121);
        due.is("look(1), 9 TALL", x.look(1), 41);
    }

    static void p26_ofAllKindsTheMostThatRiseAlikeAreFewest(Due due) {
        // 6 TALL at 3: 1, 1, 3, 0, 2, 0; at 2: 1, 1, 2, 0, 1, 0; two of VEE, TENT, FLAP are always alike.
        StandUpBook x = Due.told("book 20;piece 0 1 6 0;");
        due.answers(x, "look(0)", () -> x.look(0), 30);
    }

    static void p26_ofLikeOnesTheLeast(Due due) {
        // VEE and TENT differ from 6 on, whatever the TAB: 60 is the least.
        StandUpBook x = Due.told("book 20;piece 0 1 6 0;");
        x.note(0, 9, 3, 3, 2);
        x.note(0, 6, 2, 0, 1);
        x.note(0, 9, 1, 0, 0);
        due.is("VEE, TENT", x.is(0), 1 + 2);
        due.is("look(0)", x.look(0), 60);
    }

    static void p26_aPieceThatIsNotThereIsBad(Due due) {
        StandUpBook x = Due.told(TWO);
        due.badOutside(x, "look", 0, 1, x::look);
    }

    static void p26_ofAnEmptyBookIsBad(Due due) {
        StandUpBook x = new StandUpBook();
        due.bad(x, "look(0)", () -> x.look(0));
    }

    // ---- 27: where

    static void p27_byNoneStoodAllRowsAndTalls(Due due) {
        StandUpBook x = Due.told(TWO);
        due.answers(x, "where(0, 0)", () -> x.where(0, 0), 1023);
        due.answers(x, "where(0, 1): no bit 0", () -> x.where(0, 1), 1022);
    }

    static void p27_rowsAheadOfAnotherOne(Due due) {
        StandUpBook x = Due.told(TWO);
        x.stood(12, 1);
        due.answers(x, "where(0, 0): 0 .. 3", () -> x.where(0, 0), 15);
    }

    static void p27_rowsBehindAnotherOne(Due due) {
        StandUpBook x = Due.told(TWO);
        x.stood(12, 1);
        due.answers(x, "where(1, 0): 6 .. 9", () -> x.where(1, 0), 960);
    }

    static void p27_row0Alone(Due due) {
        StandUpBook x = Due.told("book 20;piece 0 1 6 9;piece 0 1 6 1;");
        x.stood(12, 1);
        due.is("where(0, 0)", x.where(0, 0), 1);
    }

    static void p27_row9Alone(Due due) {
        StandUpBook x = Due.told("book 20;piece 0 1 6 0;piece 0 1 6 8;");
        x.stood(12, 2);
        due.is("where(0, 0)", x.where(0, 0), 512);
    }

    static void p27_tallsThatRiseAtAll(Due due) {
        int[] want = {0, 0, 960, 1008, 1016, 1016, 1020, 1020, 1020, 1020, 1020, 1020, 1022};
        for (int o = 0; o <= 12; o++) {
            StandUpBook x = Due.told("book 20;piece 0 1 6 0;");
            x.stood(o, 1);
            due.is("where(0, 1) of one that stood at " + o, x.where(0, 1), want[o]);
            x.forget(1);
            x.stood(o, 0);
            due.is("where(0, 1) of one that lay at " + o, x.where(0, 1), 1022 - want[o]);
        }
    }

    static void p27_tall1Alone(Due due) {
        StandUpBook x = Due.told("book 20;piece 0 1 6 0;piece 0 1 2 1;");
        x.stood(12, 3);
        due.is("where(0, 1)", x.where(0, 1), 2);
    }

    static void p27_tall9Alone(Due due) {
        StandUpBook x = Due.told("book 20;piece 0 1 8 0;piece 0 1 2 1;");
        x.stood(12, 3);
        due.is("where(1, 1)", x.where(1, 1), 512);
    }

    static void p27_allThatStoodMustBeSo(Due due) {
        StandUpBook x = Due.told(TWO);
        x.stood(12, 3);
        due.is("where(0, 1): above 3", x.where(0, 1), 1008);
        x.stood(2, 0);
        due.is("where(0, 1): 0 at 2, too", x.where(0, 1), 16 + 32);
        x.stood(2, 1);
        due.is("where(0, 1): both can not be", x.where(0, 1), 0);
        due.is("where(0, 0): neither", x.where(0, 0), 0);
    }

    static void p27_justThoseToldWereSeen(Due due) {
        StandUpBook x = Due.told("book 20;piece 0 1 6 0;piece 0 1 9 1;");
        x.stood(12, 1);
        due.is("where(0, 0): the other one is SEEN, whatever its ROW", x.where(0, 0), 0);
        x.forget(1);
        x.stood(12, 3);
        due.is("where(0, 0): ROW 0 or 1", x.where(0, 0), 3);
    }

    static void p27_aStuckOneLiesHoweverTall(Due due) {
        StandUpBook x = Due.told("book 20;piece 5 1 9 0;");
        Due.openToAndFro(x, 7);
        x.stood(12, 0);
        due.is("where(0, 1)", x.where(0, 1), 1022);
        x.stood(12, 1);
        due.is("where(0, 1)", x.where(0, 1), 0);
    }

    static void p27_itsRowAndTallStay(Due due) {
        StandUpBook x = Due.told(TWO);
        x.stood(12, 1);
        due.answers(x, "where(0, 0)", () -> x.where(0, 0), 15);
        due.answers(x, "where(0, 1), in ROW 5: never alone", () -> x.where(0, 1), 0);
        due.is("of(0, 3)", x.of(0, 3), 5);
        due.is("of(0, 2)", x.of(0, 2), 6);
    }

    static void p27_aPieceThatIsNotThereIsBad(Due due) {
        StandUpBook x = Due.told(TWO);
        due.badOutside(x, "where(.., 0)", 0, 1, v -> x.where(v, 0));
    }

    static void p27_ofAnEmptyBookIsBad(Due due) {
        StandUpBook x = new StandUpBook();
        due.bad(x, "where(0, 0)", () -> x.where(0, 0));
        due.bad(x, "where(0, 1)", () -> x.where(0, 1));
    }

    static void p27_whatBelow0OrAbove1IsBad(Due due) {
        StandUpBook x = Due.told(TWO);
        due.badOutside(x, "where(0, ..)", 0, 1, v -> x.where(0, v));
    }
}
