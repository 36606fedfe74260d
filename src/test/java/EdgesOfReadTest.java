/** Promise 6, a case each: read, with the paragraph of "Terms" on THE TEXT. */
public final class EdgesOfReadTest {
    private static final int NONE = StandUpBook.NONE;
    private static final String SEVEN = "book 9;piece 0 1 1 0;piece 0 1 1 1;piece 0 1 1 2;piece 0 1 1 3;"
            + "piece 0 1 1 4;piece 0 1 1 5;on 0 1 1 6 5;";

    public static void main(String[] args) {
        Cases.run(EdgesOfReadTest.class);
    }

    /** The FAULT of a text on a new object. */
    private static void fault(Due due, String text, int at) {
        StandUpBook x = new StandUpBook();
        due.is("read of '" + text + "'", Due.readText(x, text), -10 - at);
        due.status(x, 0, 0, 0);
    }

    private static void items(Due due, String text, int many) {
        due.is("read of '" + text + "'", Due.readText(new StandUpBook(), text), many);
    }

    // ---- what it answers

    static void p06_bookAloneIs1Item(Due due) {
        items(due, "book 20;", 1);
    }

    static void p06_everyItemCounts(Due due) {
        items(due, "book 20;piece 0 1 1 0;on 0 1 1 0 0;open 3;pull 0 1;", 5);
    }

    static void p06_asManyItemsAs150BytesHold(Due due) {
        String text = "book 6;" + "open 1;open 0;".repeat(10) + "   ";
        due.is("bytes", text.length(), 150);
        items(due, text, 21);
    }

    static void p06_theSameTextMayBeReadAgain(Due due) {
        StandUpBook x = Due.told("book 20;piece 0 1 1 0;open 3;");
        long before = x.digest();
        due.is("read()", x.read(), 3);
        due.unchanged("read() again", x, before);
    }

    // ---- the text ends too early

    static void p06_anEmptyTextHasItsFaultAt0(Due due) {
        fault(due, "", 0);
    }

    static void p06_blanksAloneEndTooEarly(Due due) {
        fault(due, " ", 1);
        fault(due, "     ", 5);
        fault(due, " ".repeat(150), 150);
    }

    static void p06_bookThatEndsTooEarlyHasItsFaultAtTheLength(Due due) {
        fault(due, "book", 4);
        fault(due, "book ", 5);
        fault(due, "book 20", 7);
        fault(due, "book 20  ", 9);
    }

    static void p06_pieceThatEndsTooEarlyHasItsFaultAtTheLength(Due due) {
        fault(due, "book 20;piece", 13);
        fault(due, "book 20;piece 5", 15);
        fault(due, "book 20;piece 5 9", 17);
        fault(due, "book 20;piece 5 9 9", 19);
        fault(due, "book 20;piece 5 9 9 9", 21);
        fault(due, "book 20;piece 5 9 9 9 ", 22);
    }

    static void p06_onThatEndsTooEarlyHasItsFaultAtTheLength(Due due) {
        fault(due, "book 20;piece 0 1 1 0;on", 24);
        fault(due, "book 20;piece 0 1 1 0;on 0", 26);
        fault(due, "book 20;piece 0 1 1 0;on 0 1", 28);
        fault(due, "book 20;piece 0 1 1 0;on 0 1 1", 30);
        fault(due, "book 20;piece 0 1 1 0;on 0 1 1 0", 32);
        fault(due, "book 20;piece 0 1 1 0;on 0 1 1 0 0", 34);
    }

    static void p06_openThatEndsTooEarlyHasItsFaultAtTheLength(Due due) {
        fault(due, "book 20;open", 12);
        fault(due, "book 20;open 12", 15);
    }

    static void p06_pullThatEndsTooEarlyHasItsFaultAtTheLength(Due due) {
        fault(due, "book 20;piece 0 1 1 0;pull", 26);
        fault(due, "book 20;piece 0 1 1 0;pull 0", 28);
        fault(due, "book 20;piece 0 1 1 0;pull 0 3", 30);
    }

    static void p06_anItemThatEndsAt150HasItsFaultThere(Due due) {
        fault(due, " ".repeat(143) + "book 20", 150);
    }

    // ---- a word that is none

    static void p06_aWordThatIsNoneHasItsFaultAtItsFirstByte(Due due) {
        fault(due, "books 20;", 0);
        fault(due, "  cook 20;", 2);
        fault(due, "book 20;pieces 0 1 1 0;", 8);
        fault(due, "book 20;pierce 0 1 1 0;", 8);
        fault(due, "book 20;onn 0 1 1 0;", 8);
        fault(due, "book 20; opens 3;", 9);
        fault(due, "book 20;piece 0 1 1 0;pulls 0 1;", 22);
        fault(due, "booka 20;", 0);
        fault(due, "book 20;openz 3;", 8);
        fault(due, "book 20;a", 8);
        fault(due, "book 20;z", 8);
    }

    static void p06_aWordCutShortIsNone(Due due) {
        fault(due, "boo", 0);
        fault(due, "b", 0);
        fault(due, "book 20;p", 8);
        fault(due, "book 20;piec", 8);
        fault(due, "book 20;o", 8);
        fault(due, "book 20;ope", 8);
        fault(due, "book 20;pul", 8);
    }

    static void p06_twoWordsWithoutABlankAreOneThatIsNone(Due due) {
        fault(due, "bookbook 20;", 0);
        fault(due, "book 20;openpull 3;", 8);
    }

    static void p06_aWordAsLongAsTheTextIsNone(Due due) {
        fault(due, "b".repeat(150), 0);
    }

    static void p06_aWordWhereANumberStandsIsAFault(Due due) {
        fault(due, "book book;", 5);
        fault(due, "book 20;open open;", 13);
        fault(due, "book 20;piece piece 1 1 0;", 14);
        fault(due, "book 20;piece 0 1 1 on;", 20);
    }

    static void p06_aWordWhereTheEndStandsIsAFault(Due due) {
        fault(due, "book 20 open 3;", 8);
        fault(due, "book 20open 3;", 7);
    }

    // ---- book once, first of all

    static void p06_bookAgainHasItsFaultAtItsWord(Due due) {
        fault(due, "book 20;book 20;", 8);
        fault(due, "book 20;open 3; book 20;", 16);
        fault(due, "book 20;book", 8);
    }

    static void p06_anythingAheadOfBookIsAFault(Due due) {
        fault(due, "piece 0 1 1 0;book 20;", 0);
        fault(due, "on 0 1 1 0 0;book 20;", 0);
        fault(due, "open 3;book 20;", 0);
        fault(due, " pull 0 1;book 20;", 1);
        fault(due, "20;book 20;", 0);
        fault(due, "  ;book 20;", 2);
        fault(due, "-book 20;", 0);
    }

    // ---- pieces

    static void p06_sevenPiecesAreTaken(Due due) {
        StandUpBook x = new StandUpBook();
        due.is("read()", Due.readText(x, SEVEN), 8);
        due.is("count(0)", x.count(0), 7);
    }

    static void p06_an8thPieceHasItsFaultAtItsWord(Due due) {
        fault(due, SEVEN + "piece 0 1 1 0;", SEVEN.length());
        fault(due, SEVEN + " piece", SEVEN.length() + 1);
    }

    static void p06_an8thOnHasItsFaultAtItsWord(Due due) {
        fault(due, SEVEN + "on 0 1 1 0 0;", SEVEN.length());
        fault(due, SEVEN + "on", SEVEN.length());
    }

    static void p06_behindSevenPiecesItMayBeOpenedAndPulled(Due due) {
        items(due, SEVEN + "open 3;pull 6 3;", 10);
    }

    static void p06_onTheFirstAndTheLastPieceAreTaken(Due due) {
        StandUpBook x = Due.told("book 20;piece 0 1 1 0;on 0 1 1 0 0;on 0 1 1 0 1;on 0 1 1 0 0;");
        due.is("of(0, 4)", x.of(0, 4), NONE);
        due.is("of(1, 4)", x.of(1, 4), 0);
        due.is("of(2, 4)", x.of(2, 4), 1);
        due.is("of(3, 4)", x.of(3, 4), 0);
    }

    static void p06_onAPieceThatIsNotThereYetIsAFaultAtItsNumber(Due due) {
        fault(due, "book 20;on 0 1 1 0 0;", 19);
        fault(due, "book 20;piece 0 1 1 0;on 0 1 1 0 1;", 33);
        fault(due, "book 20;piece 0 1 1 0;on 0 1 1 0 6;piece 0 1 1 0;", 33);
        fault(due, "book 20;piece 0 1 1 0;on 0 1 1 0 99;", 33);
    }

    static void p06_onWithoutAPieceIsAFaultAtItsEnd(Due due) {
        fault(due, "book 20;piece 0 1 1 0;on 0 1 1 0;", 32);
    }

    static void p06_pieceWithAFifthNumberIsAFault(Due due) {
        fault(due, "book 20;piece 0 1 1 0;piece 0 1 1 0 0;", 36);
    }

    static void p06_pullAPieceThatIsNotThereYetIsAFaultAtItsNumber(Due due) {
        fault(due, "book 20;pull 0 0;", 13);
        fault(due, "book 20;piece 0 1 1 0;pull 1 0;", 27);
        fault(due, "book 20;pull 0 1;piece 0 1 1 0;", 13);
    }

    // ---- numbers

    static void p06_oneOrTwoFiguresAreOneNumber(Due due) {
        StandUpBook x = Due.told("book 07;piece 05 09 01 00;piece 0 1 1 0;on 4 1 1 9 01;open 09;pull 00 03;");
        due.is("count(2)", x.count(2), 7);
        due.all("of(0, ..)", Due.ofAll(x, 0), 5, 9, 1, 0, NONE, 3, 9, 0);
        due.all("of(2, ..)", Due.ofAll(x, 2), 4, 1, 1, 9, 1, 0, 9, 0);
    }

    static void p06_threeFiguresHaveTheirFaultAtTheFirst(Due due) {
        fault(due, "book 020;", 5);
        fault(due, "book 200;", 5);
        fault(due, "book 20;open 000;", 13);
        fault(due, "book 20;open 012;", 13);
        fault(due, "book 20;piece 0 1 1 009;", 20);
        fault(due, "book 20;piece 0 1 1 0;pull 000 0;", 27);
    }

    static void p06_aRunOfMoreFiguresHasItsFaultAtTheFirst(Due due) {
        fault(due, "book 0020;", 5);
        fault(due, "book 4294967316;", 5);
        fault(due, "book " + "0".repeat(143) + "20", 5);
    }

    static void p06_figuresWithABlankBetweenAreTwoNumbers(Due due) {
        fault(due, "book 9 0;", 7);
        fault(due, "book 20;open 1 2;", 15);
    }

    static void p06_wide6AndWide40AreTaken(Due due) {
        due.is("count(2)", Due.told("book 6;").count(2), 6);
        due.is("count(2)", Due.told("book 40;").count(2), 40);
    }

    static void p06_wideBelow6OrAbove40IsAFault(Due due) {
        fault(due, "book 5;", 5);
        fault(due, "book 00;", 5);
        fault(due, "book 41;", 5);
        fault(due, "book 99;", 5);
        fault(due, "book 5", 5);
    }

    static void p06_theLeastNumbersOfAPieceAreTaken(Due due) {
        due.all("of(0, ..)", Due.ofAll(Due.told("book 20;piece 0 1 1 0;"), 0), 0, 1, 1, 0, NONE, 0, 0, 0);
    }

    static void p06_theGreatestNumbersOfAPieceAreTaken(Due due) {
        due.all("of(0, ..)", Due.ofAll(Due.told("book 20;piece 5 9 9 9;"), 0), 5, 9, 9, 9, NONE, 0, 0, 0);
    }

    static void p06_aKindThatIsNoneIsAFault(Due due) {
        fault(due, "book 20;piece 6 1 1 0;", 14);
        fault(due, "book 20;piece 10 1 1 0;", 14);
        fault(due, "book 20;piece 0 1 1 0;on 6 1 1 0 0;", 25);
    }

    static void p06_anArmBelow1OrAbove9IsAFault(Due due) {
        fault(due, "book 20;piece 0 0 1 0;", 16);
        fault(due, "book 20;piece 0 10 1 0;", 16);
        fault(due, "book 20;piece 0 1 1 0;on 0 0 1 0 0;", 27);
        fault(due, "book 20;piece 0 1 1 0;on 0 10 1 0 0;", 27);
    }

    static void p06_tallBelow1OrAbove9IsAFault(Due due) {
        fault(due, "book 20;piece 0 1 0 0;", 18);
        fault(due, "book 20;piece 0 1 10 0;", 18);
        fault(due, "book 20;piece 0 1 1 0;on 0 1 0 0 0;", 29);
        fault(due, "book 20;piece 0 1 1 0;on 0 1 10 0 0;", 29);
    }

    static void p06_aRowAbove9IsAFault(Due due) {
        fault(due, "book 20;piece 0 1 1 10;", 20);
        fault(due, "book 20;piece 0 1 1 0;on 0 1 1 10 0;", 31);
    }

    static void p06_open0AndOpen12AreTaken(Due due) {
        due.is("count(1)", Due.told("book 20;open 12;").count(1), 12);
        due.is("count(1)", Due.told("book 20;open 12;open 0;").count(1), 0);
    }

    static void p06_openAbove12IsAFault(Due due) {
        fault(due, "book 20;open 13;", 13);
        fault(due, "book 20;open 99;", 13);
    }

    static void p06_pull0AndPull3AreTaken(Due due) {
        due.is("of(0, 5)", Due.told("book 20;piece 0 1 1 0;pull 0 3;").of(0, 5), 3);
        due.is("of(0, 5)", Due.told("book 20;piece 0 1 1 0;pull 0 3;pull 0 0;").of(0, 5), 0);
    }

    static void p06_pullAbove3IsAFault(Due due) {
        fault(due, "book 20;piece 0 1 1 0;pull 0 4;", 29);
        fault(due, "book 20;piece 0 1 1 0;pull 0 99;", 29);
    }

    // ---- ends of items, and blanks

    static void p06_anItemWithoutItsEndIsAFault(Due due) {
        fault(due, "book 20 20;", 8);
        fault(due, "book 20;open 3 open 4;", 15);
    }

    static void p06_anEndWhereAWordStandsIsAFault(Due due) {
        fault(due, ";", 0);
        fault(due, "book 20;;", 8);
        fault(due, "book 20; ;open 3;", 9);
    }

    static void p06_anEndWhereANumberStandsIsAFault(Due due) {
        fault(due, "book;", 4);
        fault(due, "book 20;piece 0 1 1;", 19);
        fault(due, "book 20;piece 0 1 1 0;pull 0;", 28);
    }

    static void p06_aNumberWhereAWordStandsIsAFault(Due due) {
        fault(due, "book 20;3;", 8);
        fault(due, "book 20;99", 8);
    }

    static void p06_blanksMayStandBetweenAllTokens(Due due) {
        StandUpBook x = Due.told("  book  20  ;  piece  5  1  9  0  ;  open  3  ;  pull  0  2  ;  ");
        due.is("count(2)", x.count(2), 20);
        due.all("of(0, ..)", Due.ofAll(x, 0), 5, 1, 9, 0, NONE, 2, 3, 0);
    }

    static void p06_noBlanksAreNeededWhereTokensDiffer(Due due) {
        items(due, "book20;open3;", 2);
    }

    static void p06_aBlankInsideAWordMakesItTwo(Due due) {
        fault(due, "bo ok 20;", 0);
        fault(due, "book 20;op en 3;", 8);
    }

    // ---- bytes

    static void p06_aByteThatBeginsNoTokenHasItsFaultThere(Due due) {
        for (int c = 0; c < 128; c++) {
            boolean begins = c >= 'a' && c <= 'z' || c >= '0' && c <= '9' || c == ';' || c == ' ';
            if (!begins) {
                fault(due, (char) c + "book 20;", 0);
                fault(due, "book " + (char) c + "20;", 5);
                fault(due, "book 20" + (char) c + ";", 7);
                fault(due, "book 20; " + (char) c, 9);
            }
        }
    }

    static void p06_lettersAreAToZAlone(Due due) {
        fault(due, "Book 20;", 0);
        fault(due, "book 20;Open 3;", 8);
        fault(due, "bOok 20;", 0);
        fault(due, "book" + (char) 96 + " 20;", 4);
        fault(due, "book" + (char) 123 + " 20;", 4);
    }

    static void p06_figuresAre0To9Alone(Due due) {
        fault(due, "book 9/;", 6);
        fault(due, "book 9:;", 6);
    }

    static void p06_aTabIsNoBlank(Due due) {
        fault(due, "book\t20;", 4);
        fault(due, "book 20;\n", 8);
    }

    static void p06_aSignIsNoNumber(Due due) {
        fault(due, "book +20;", 5);
        fault(due, "book 20;open -1;", 13);
    }

    static void p06_theFirstFaultCounts(Due due) {
        fault(due, "book 41;pieces 0 1 1 0;", 5);
        fault(due, "book 20;piece 6 0 0 10", 14);
        fault(due, "book 20;open 13", 13);
    }

    // ---- a fault: all stays

    static void p06_aFaultKeepsAllAndIsNotRefused(Due due) {
        StandUpBook x = Due.told("book 20;piece 5 1 9 0;");
        x.opens(12);
        x.note(0, 1, 1, 1, 1);
        x.stood(1, 1);
        x.sticks(12, 3);
        x.clear();
        Due.typeAll(x, "book 9;piece 0 1 1 0;open 4;pull 1 1;");
        due.answers(x, "read()", x::read, -43);
        due.is("undo()", x.undo(), 0);
        due.all("of(0, ..)", Due.ofAll(x, 0), 5, 1, 9, 0, NONE, 0, 0, 0);
    }

    static void p06_aFaultKeepsImages(Due due) {
        StandUpBook x = Due.told("book 33;piece 5 1 9 0;");
        x.image(0);
        due.is("read", Due.readText(x, "book 9;piece 0 1 1 0;open"), -35);
        due.is("from(0)", x.from(0), 1);
        due.is("count(2)", x.count(2), 33);
        due.is("of(0, 0)", x.of(0, 0), 5);
        due.is("from(1)", x.from(1), -3);
    }

    // ---- a book that is read

    static void p06_takesThePlaceOfAllPieces(Due due) {
        StandUpBook x = Due.told("book 20;piece 5 1 9 0;piece 5 1 9 0;open 12;pull 0 3;");
        due.is("read", Due.readText(x, "book 30;piece 0 2 3 4;"), 2);
        due.is("count(0)", x.count(0), 1);
        due.is("count(1), shut", x.count(1), 0);
        due.is("count(2)", x.count(2), 30);
        due.all("of(0, ..)", Due.ofAll(x, 0), 0, 2, 3, 4, NONE, 0, 0, 0);
    }

    static void p06_notesAndStoodAreNone(Due due) {
        StandUpBook x = Due.told("book 20;piece 5 1 9 0;");
        x.note(0, 1, 1, 1, 1);
        x.stood(1, 1);
        x.read();
        due.is("count(6)", x.count(6), 0);
        due.is("count(7)", x.count(7), 0);
    }

    static void p06_nothingMayBeUndone(Due due) {
        StandUpBook x = Due.told("book 20;piece 5 1 9 0;open 3;pull 0 1;");
        x.opens(12);
        x.read();
        due.is("count(8)", x.count(8), 0);
        due.no(x, "undo()", x::undo);
    }

    static void p06_imagesStay(Due due) {
        StandUpBook x = Due.told("book 33;");
        x.image(1);
        due.is("read", Due.readText(x, "book 9;"), 1);
        due.is("from(1)", x.from(1), 1);
        due.is("count(2)", x.count(2), 33);
    }

    static void p06_theTextStays(Due due) {
        due.is("count(9)", Due.told("book 33;").count(9), 8);
    }

    static void p06_theFractionStays(Due due) {
        StandUpBook x = Due.told("book 33;piece 0 1 9 0;");
        x.sticks(12, 3);
        x.read();
        due.is("part(0)", x.part(0), 7);
        due.is("part(1)", x.part(1), 10);
    }

    static void p06_statusStays(Due due) {
        StandUpBook x = Due.told(SEVEN);
        x.opens(0);
        x.seen(13);
        x.piece(0, 1, 1, 0, NONE);
        x.read();
        due.status(x, 1, 1, 1);
    }

    static void p06_openWearsThosePiecesThatAreThere(Due due) {
        StandUpBook x = Due.told("book 20;piece 0 1 1 0;open 12;piece 0 1 1 0;open 7;piece 0 1 1 0;");
        due.is("of(0, 6)", x.of(0, 6), 17);
        due.is("of(1, 6)", x.of(1, 6), 5);
        due.is("of(2, 6)", x.of(2, 6), 0);
    }

    static void p06_openToWhereItIsChangesNothing(Due due) {
        StandUpBook x = new StandUpBook();
        due.is("read", Due.readText(x, "book 20;piece 0 1 1 0;open 0;open 5;open 5;"), 5);
        due.is("of(0, 6)", x.of(0, 6), 5);
    }

    static void p06_pullToWhereItIsChangesNothing(Due due) {
        StandUpBook x = new StandUpBook();
        due.is("read", Due.readText(x, "book 20;piece 0 1 1 0;pull 0 0;pull 0 2;pull 0 2;"), 5);
        due.is("of(0, 5)", x.of(0, 5), 2);
    }

    static void p06_aStuckPieceWearsNoMore(Due due) {
        StandUpBook x = Due.told("book 20;piece 5 1 9 0;open 12;open 0;open 12;open 0;open 12;open 0;open 3;open 9;");
        due.is("of(0, 6)", x.of(0, 6), 75);
        due.is("of(0, 7)", x.of(0, 7), 1);
    }
}
