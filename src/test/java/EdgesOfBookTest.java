/** Promises 1 to 5, a case each: a new object, book, piece, type, clear. */
public final class EdgesOfBookTest {
    private static final int NONE = StandUpBook.NONE;

    public static void main(String[] args) {
        Cases.run(EdgesOfBookTest.class);
    }

    private static StandUpBook withSeven() {
        StandUpBook x = new StandUpBook();
        for (int i = 0; i < 7; i++) {
            x.piece(0, 1, 1, i, NONE);
        }
        return x;
    }

    private static StandUpBook withFullText() {
        StandUpBook x = new StandUpBook();
        Due.typeAll(x, "x".repeat(150));
        return x;
    }

    // ---- 1: a new object

    static void p01_isShutAtFirst(Due due) {
        due.is("count(1)", new StandUpBook().count(1), 0);
    }

    static void p01_thePageIs20WideAtFirst(Due due) {
        due.is("count(2)", new StandUpBook().count(2), 20);
    }

    static void p01_hasNoPieces(Due due) {
        StandUpBook x = new StandUpBook();
        due.is("count(0)", x.count(0), 0);
        due.is("count(3), SEEN", x.count(3), 0);
        due.is("count(4), STUCK", x.count(4), 0);
        due.is("count(5), WEAR", x.count(5), 0);
        due.bad(x, "of(0, 0)", () -> x.of(0, 0));
    }

    static void p01_hasNoNotesAndNoneStood(Due due) {
        StandUpBook x = new StandUpBook();
        due.is("count(6)", x.count(6), 0);
        due.is("count(7)", x.count(7), 0);
        due.is("forget(0)", x.forget(0), 0);
        due.is("forget(1)", x.forget(1), 0);
    }

    static void p01_itsTextIsEmpty(Due due) {
        StandUpBook x = new StandUpBook();
        due.is("count(9)", x.count(9), 0);
        due.is("read()", x.read(), -10);
        due.is("clear()", x.clear(), 0);
    }

    static void p01_theFractionIs0By1(Due due) {
        StandUpBook x = new StandUpBook();
        due.is("part(0)", x.part(0), 0);
        due.is("part(1)", x.part(1), 1);
    }

    static void p01_noneWasRefused(Due due) {
        due.status(new StandUpBook(), 0, 0, 0);
    }

    static void p01_noImageIsKept(Due due) {
        StandUpBook x = new StandUpBook();
        due.no(x, "from(0)", () -> x.from(0));
        due.no(x, "from(1)", () -> x.from(1));
    }

    static void p01_nothingMayBeUndone(Due due) {
        StandUpBook x = new StandUpBook();
        due.is("count(8)", x.count(8), 0);
        due.no(x, "undo()", x::undo);
    }

    static void p01_hasNothingOfAnotherObject(Due due) {
        long atFirst = new StandUpBook().digest();
        StandUpBook other = Due.told("book 9;piece 5 1 9 0;open 12;pull 0 3;");
        other.opens(3);
        other.image(0);
        other.sticks(12, 3);
        other.opens(99);
        StandUpBook x = new StandUpBook();
        due.is("digest()", x.digest(), atFirst);
        due.status(x, 0, 0, 0);
        due.is("from(0)", x.from(0), -3);
        due.is("piece", x.piece(5, 1, 9, 0, NONE), 0);
        due.is("piece 0 of the other one", other.of(0, 6), 21);
    }

    // ---- 2: book

    static void p02_wide6IsTaken(Due due) {
        StandUpBook x = new StandUpBook();
        due.is("book(6)", x.book(6), 0);
        due.is("count(2)", x.count(2), 6);
    }

    static void p02_wide40IsTaken(Due due) {
        StandUpBook x = new StandUpBook();
        due.is("book(40)", x.book(40), 0);
        due.is("count(2)", x.count(2), 40);
    }

    static void p02_below6OrAbove40IsBad(Due due) {
        StandUpBook x = Due.told("book 30;piece 0 1 9 0;");
        x.opens(7);
        due.badOutside(x, "book", 6, 40, x::book);
        due.is("undo() behind refused ones", x.undo(), 0);
    }

    static void p02_answers0IfThereWereNone(Due due) {
        due.is("book(7)", new StandUpBook().book(7), 0);
    }

    static void p02_answers7IfThereWere7(Due due) {
        StandUpBook x = withSeven();
        due.is("book(7)", x.book(7), 7);
        due.is("count(0)", x.count(0), 0);
        due.is("book(7) again", x.book(7), 0);
    }

    static void p02_asWideAsItIsStartsAnewToo(Due due) {
        StandUpBook x = Due.told("book 20;piece 0 1 9 0;open 4;");
        due.is("book(20)", x.book(20), 1);
        due.is("count(0)", x.count(0), 0);
        due.is("count(1)", x.count(1), 0);
    }

    static void p02_isShutAgain(Due due) {
        StandUpBook x = new StandUpBook();
        x.opens(12);
        x.book(20);
        due.is("count(1)", x.count(1), 0);
    }

    static void p02_notesAndStoodAreNone(Due due) {
        StandUpBook x = Due.told("book 20;piece 0 1 9 0;");
        x.note(0, 1, 1, 1, 1);
        x.stood(1, 1);
        x.book(20);
        due.is("count(6)", x.count(6), 0);
        due.is("count(7)", x.count(7), 0);
    }

    static void p02_nothingMayBeUndone(Due due) {
        StandUpBook x = new StandUpBook();
        x.opens(12);
        x.book(20);
        due.is("count(8)", x.count(8), 0);
        due.no(x, "undo()", x::undo);
    }

    static void p02_imagesStay(Due due) {
        StandUpBook x = Due.told("book 33;piece 0 1 9 0;");
        x.image(1);
        x.book(20);
        due.is("from(1)", x.from(1), 1);
        due.is("count(0)", x.count(0), 1);
        due.is("count(2)", x.count(2), 33);
    }

    static void p02_theTextStays(Due due) {
        StandUpBook x = Due.told("book 33;open 5;");
        x.book(20);
        due.is("count(9)", x.count(9), 15);
        due.is("read()", x.read(), 2);
        due.is("count(2)", x.count(2), 33);
    }

    static void p02_theFractionStays(Due due) {
        StandUpBook x = Due.told("book 33;piece 0 1 9 0;");
        x.sticks(12, 3);
        x.book(20);
        due.is("part(0)", x.part(0), 7);
        due.is("part(1)", x.part(1), 10);
    }

    static void p02_statusStays(Due due) {
        StandUpBook x = withSeven();
        x.opens(0);
        x.piece(0, 1, 1, 0, NONE);
        x.seen(13);
        x.book(20);
        due.status(x, 1, 1, 1);
    }

    static void p02_aPieceBehindItHasNothingOfAnOldOne(Due due) {
        StandUpBook x = Due.told("book 33;piece 5 9 9 9;open 12;pull 0 3;");
        x.book(20);
        due.is("piece", x.piece(0, 1, 1, 0, NONE), 0);
        due.all("of(0, ..)", Due.ofAll(x, 0), 0, 1, 1, 0, NONE, 0, 0, 0);
    }

    // ---- 3: piece

    static void p03_kind0AndKind5AreTaken(Due due) {
        StandUpBook x = new StandUpBook();
        due.is("piece", x.piece(0, 1, 1, 0, NONE), 0);
        due.is("piece", x.piece(5, 1, 1, 0, NONE), 1);
        due.is("of(0, 0)", x.of(0, 0), 0);
        due.is("of(1, 0)", x.of(1, 0), 5);
    }

    static void p03_aKindThatIsNoneIsBad(Due due) {
        StandUpBook x = new StandUpBook();
        due.badOutside(x, "piece, KIND", 0, 5, v -> x.piece(v, 1, 1, 0, NONE));
    }

    static void p03_arm1AndArm9AreTaken(Due due) {
        StandUpBook x = new StandUpBook();
        due.is("piece", x.piece(0, 1, 1, 0, NONE), 0);
        due.is("piece", x.piece(0, 9, 1, 0, NONE), 1);
        due.is("of(0, 1)", x.of(0, 1), 1);
        due.is("of(1, 1)", x.of(1, 1), 9);
    }

    static void p03_anArmBelow1OrAbove9IsBad(Due due) {
        StandUpBook x = new StandUpBook();
        due.badOutside(x, "piece, ARM", 1, 9, v -> x.piece(0, v, 1, 0, NONE));
    }

    static void p03_tall1AndTall9AreTaken(Due due) {
        StandUpBook x = new StandUpBook();
        due.is("piece", x.piece(0, 1, 1, 0, NONE), 0);
        due.is("piece", x.piece(0, 1, 9, 0, NONE), 1);
        due.is("of(0, 2)", x.of(0, 2), 1);
        due.is("of(1, 2)", x.of(1, 2), 9);
    }

    static void p03_tallBelow1OrAbove9IsBad(Due due) {
        StandUpBook x = new StandUpBook();
        due.badOutside(x, "piece, TALL", 1, 9, v -> x.piece(0, 1, v, 0, NONE));
    }

    static void p03_row0AndRow9AreTaken(Due due) {
        StandUpBook x = new StandUpBook();
        due.is("piece", x.piece(0, 1, 1, 0, NONE), 0);
        due.is("piece", x.piece(0, 1, 1, 9, NONE), 1);
        due.is("of(0, 3)", x.of(0, 3), 0);
        due.is("of(1, 3)", x.of(1, 3), 9);
    }

    static void p03_aRowBelow0OrAbove9IsBad(Due due) {
        StandUpBook x = new StandUpBook();
        due.badOutside(x, "piece, ROW", 0, 9, v -> x.piece(0, 1, 1, v, NONE));
    }

    static void p03_onThePageAndOnTheLastPieceAreTaken(Due due) {
        StandUpBook x = new StandUpBook();
        due.is("piece", x.piece(0, 1, 1, 0, NONE), 0);
        due.is("piece", x.piece(0, 1, 1, 0, 0), 1);
        due.is("piece", x.piece(0, 1, 1, 0, 1), 2);
        due.is("piece", x.piece(0, 1, 1, 0, 0), 3);
        due.is("of(0, 4)", x.of(0, 4), NONE);
        due.is("of(1, 4)", x.of(1, 4), 0);
        due.is("of(2, 4)", x.of(2, 4), 1);
        due.is("of(3, 4)", x.of(3, 4), 0);
    }

    static void p03_onItsOwnNumberIsBad(Due due) {
        StandUpBook x = Due.told("book 20;piece 0 1 1 0;");
        due.bad(x, "piece ON 1", () -> x.piece(0, 1, 1, 0, 1));
    }

    static void p03_onAPieceThatIsNotThereIsBad(Due due) {
        StandUpBook x = Due.told("book 20;piece 0 1 1 0;piece 0 1 1 0;");
        due.badOutside(x, "piece, ON", NONE, 1, v -> x.piece(0, 1, 1, 0, v));
    }

    static void p03_onAPieceOfAnEmptyBookIsBad(Due due) {
        StandUpBook x = new StandUpBook();
        due.bad(x, "piece ON 0", () -> x.piece(0, 1, 1, 0, 0));
    }

    static void p03_onATornPieceIsBad(Due due) {
        StandUpBook x = Due.told("book 20;piece 0 1 1 0;piece 0 1 1 0;");
        x.tears(1);
        due.bad(x, "piece ON 1", () -> x.piece(0, 1, 1, 0, 1));
    }

    static void p03_theSeventhIsNumber6(Due due) {
        StandUpBook x = new StandUpBook();
        for (int i = 0; i < 7; i++) {
            due.is("piece", x.piece(0, 1, 1, i, NONE), i);
        }
        due.is("count(0)", x.count(0), 7);
    }

    static void p03_anEighthIsFull(Due due) {
        StandUpBook x = withSeven();
        due.full(x, "an eighth piece", () -> x.piece(0, 1, 1, 0, NONE));
        due.full(x, "an eighth piece ON the seventh", () -> x.piece(5, 9, 9, 9, 6));
    }

    static void p03_badComesAheadOfFull(Due due) {
        StandUpBook x = withSeven();
        due.bad(x, "an eighth piece, KIND 6", () -> x.piece(6, 1, 1, 0, NONE));
        due.bad(x, "an eighth piece, ARM 0", () -> x.piece(0, 0, 1, 0, NONE));
        due.bad(x, "an eighth piece, TALL 10", () -> x.piece(0, 1, 10, 0, NONE));
        due.bad(x, "an eighth piece, ROW 10", () -> x.piece(0, 1, 1, 10, NONE));
        due.bad(x, "an eighth piece ON 7", () -> x.piece(0, 1, 1, 0, 7));
    }

    static void p03_isTakenAgainBehindATear(Due due) {
        StandUpBook x = withSeven();
        x.tears(3);
        due.is("piece", x.piece(0, 1, 1, 0, NONE), 6);
        due.full(x, "an eighth piece", () -> x.piece(0, 1, 1, 0, NONE));
    }

    static void p03_tabAndWearAre0AtFirst(Due due) {
        StandUpBook x = Due.told("book 20;piece 5 1 1 0;open 12;pull 0 3;");
        due.is("piece", x.piece(5, 1, 1, 0, NONE), 1);
        due.is("TAB", x.of(1, 5), 0);
        due.is("WEAR", x.of(1, 6), 0);
    }

    static void p03_hasNothingOfATornOne(Due due) {
        StandUpBook x = Due.told("book 20;piece 5 1 9 0;open 12;pull 0 3;");
        x.tears(0);
        due.is("piece", x.piece(0, 2, 3, 4, NONE), 0);
        due.all("of(0, ..)", Due.ofAll(x, 0), 0, 2, 3, 4, NONE, 0, 0, 0);
    }

    static void p03_behindItNothingMayBeUndone(Due due) {
        StandUpBook x = new StandUpBook();
        x.opens(5);
        x.opens(6);
        x.piece(0, 1, 1, 0, NONE);
        due.is("count(8)", x.count(8), 0);
        due.no(x, "undo()", x::undo);
        due.is("count(1)", x.count(1), 6);
    }

    static void p03_aRefusedOneKeepsWhatMayBeUndone(Due due) {
        StandUpBook x = withSeven();
        x.opens(5);
        x.opens(6);
        x.piece(0, 1, 1, 0, NONE);
        x.piece(0, 1, 1, 0, 99);
        due.is("count(8)", x.count(8), 2);
        due.is("undo()", x.undo(), 5);
        due.is("undo()", x.undo(), 0);
    }

    static void p03_notesAndStoodStay(Due due) {
        StandUpBook x = Due.told("book 20;piece 0 1 1 0;");
        x.note(0, 1, 1, 1, 1);
        x.stood(12, 1);
        x.piece(0, 1, 1, 0, NONE);
        due.is("count(6)", x.count(6), 1);
        due.is("count(7)", x.count(7), 1);
    }

    // ---- 4: type

    static void p04_byte0AndByte127AreTaken(Due due) {
        StandUpBook x = new StandUpBook();
        due.is("type(0)", x.type(0), 1);
        due.is("type(127)", x.type(127), 2);
        due.is("count(9)", x.count(9), 2);
    }

    static void p04_below0OrAbove127IsBad(Due due) {
        StandUpBook x = new StandUpBook();
        due.badOutside(x, "type", 0, 127, x::type);
    }

    static void p04_the150thIsTaken(Due due) {
        StandUpBook x = new StandUpBook();
        Due.typeAll(x, "x".repeat(149));
        due.is("type the 150th", x.type('x'), 150);
    }

    static void p04_the151stIsFull(Due due) {
        StandUpBook x = withFullText();
        due.full(x, "type the 151st", () -> x.type('x'));
        due.is("count(9)", x.count(9), 150);
    }

    static void p04_badComesAheadOfFull(Due due) {
        StandUpBook x = withFullText();
        due.bad(x, "type(128)", () -> x.type(128));
        due.bad(x, "type(-1)", () -> x.type(-1));
    }

    static void p04_comesBehindTheText(Due due) {
        StandUpBook x = new StandUpBook();
        Due.typeAll(x, "book 1");
        x.type('7');
        x.type(';');
        due.is("read()", x.read(), 1);
        due.is("count(2)", x.count(2), 17);
    }

    static void p04_comesBehindATextThatWasRead(Due due) {
        StandUpBook x = Due.told("book 17;");
        due.is("type", x.type('o'), 9);
        Due.typeAll(x, "pen 5;");
        due.is("read()", x.read(), 2);
        due.is("count(1)", x.count(1), 5);
    }

    // ---- 5: clear

    static void p05_anEmptyOneHad0(Due due) {
        StandUpBook x = new StandUpBook();
        due.answers(x, "clear()", x::clear, 0);
    }

    static void p05_aFullOneHad150AndTakesBytesAgain(Due due) {
        StandUpBook x = withFullText();
        due.is("clear()", x.clear(), 150);
        due.is("count(9)", x.count(9), 0);
        due.is("type", x.type('x'), 1);
    }

    static void p05_clearedTwiceHad0(Due due) {
        StandUpBook x = Due.told("book 17;");
        due.is("clear()", x.clear(), 8);
        due.is("clear()", x.clear(), 0);
    }

    static void p05_whatWasClearedIsNotRead(Due due) {
        StandUpBook x = new StandUpBook();
        Due.typeAll(x, "book 17;");
        x.clear();
        due.is("read() of none", x.read(), -10);
        Due.typeAll(x, "book");
        due.is("read() of a shorter one", x.read(), -14);
    }

    static void p05_theBookStays(Due due) {
        StandUpBook x = Due.told("book 17;piece 0 1 1 0;open 3;");
        x.opens(4);
        x.clear();
        long[] want = {1, 4, 17, 0, 0, 4, 0, 0, 1, 0};
        for (int what = 0; what < 10; what++) {
            due.is("count(" + what + ")", x.count(what), want[what]);
        }
    }
}
