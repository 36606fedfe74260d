/** Promises 1 to 6: a new object, book, piece, type, clear, read. */
public final class BookTest {
    private static final int NONE = StandUpBook.NONE;
    private static final Due due = new Due("BookTest");

    public static void main(String[] args) {
        newObject();
        bookStartsAnew();
        bookRefuses();
        pieceIsGlued();
        pieceRefuses();
        typeAndClear();
        readTakesAllItems();
        readOpensAndPulls();
        readTakesThePlace();
        readFaultsAtWords();
        readFaultsAtNumbers();
        readFaultsAtEnds();
        readFaultKeepsAll();
        readOfClearedAndFullTexts();
        due.end();
    }

    private static void newObject() {
        StandUpBook x = new StandUpBook();
        int[] counts = {0, 0, 20, 0, 0, 0, 0, 0, 0, 0};
        for (int what = 0; what < counts.length; what++) {
            due.is("count(" + what + ")", x.count(what), counts[what]);
        }
        due.is("part(0)", x.part(0), 0);
        due.is("part(1)", x.part(1), 1);
        due.is("of(0, 0)", x.of(0, 0), -2);
        due.is("undo()", x.undo(), -3);
        due.is("from(0)", x.from(0), -3);
        due.is("from(1)", x.from(1), -3);
        due.status(x, 1, 3, 0);
    }

    private static void bookStartsAnew() {
        StandUpBook x = Due.told("book 30;piece 0 1 9 0;piece 5 1 9 1;open 12;pull 1 2;");
        x.opens(6);
        x.note(0, 1, 12, 0, 1);
        x.stood(6, 1);
        x.sticks(12, 0);
        x.image(1);
        x.opens(6);
        long above = x.part(0);
        due.is("part(0)", above, 2);
        due.is("book(6)", x.book(6), 2);
        int bytes = "book 30;piece 0 1 9 0;piece 5 1 9 1;open 12;pull 1 2;".length();
        int[] counts = {0, 0, 6, 0, 0, 0, 0, 0, 0, bytes};
        for (int what = 0; what < counts.length; what++) {
            due.is("count(" + what + ") behind book", x.count(what), counts[what]);
        }
        due.is("part(0) behind book", x.part(0), above);
        due.status(x, 0, 1, 0);
        due.is("book(40)", x.book(40), 0);
        due.is("count(2)", x.count(2), 40);
        due.is("from(1)", x.from(1), 1);
        due.is("count(0) of the image", x.count(0), 2);
        due.is("count(2) of the image", x.count(2), 30);
        due.is("count(6) of the image", x.count(6), 1);
    }

    private static void bookRefuses() {
        StandUpBook x = Due.told("book 30;piece 0 1 9 0;");
        long before = x.digest();
        due.is("book(5)", x.book(5), -2);
        due.is("book(41)", x.book(41), -2);
        due.is("book(least)", x.book(Integer.MIN_VALUE), -2);
        due.unchanged("book", x, before);
        due.status(x, 3, 0, 0);
    }

    private static void pieceIsGlued() {
        StandUpBook x = new StandUpBook();
        x.opens(4);
        due.is("piece", x.piece(0, 1, 1, 0, NONE), 0);
        due.is("nothing to undo behind a piece", x.count(8), 0);
        due.is("it is open still", x.count(1), 4);
        due.is("piece", x.piece(5, 9, 8, 9, 0), 1);
        due.is("piece", x.piece(3, 2, 9, 4, 1), 2);
        due.is("piece", x.piece(4, 3, 7, 3, 0), 3);
        long[] got = new long[8];
        for (int what = 0; what < 8; what++) {
            got[what] = x.of(1, what);
        }
        due.all("of(1, ..)", got, 5, 9, 8, 9, 0, 0, 0, 0);
        for (int i = 4; i < 7; i++) {
            due.is("piece", x.piece(0, 1, 1, 0, NONE), i);
        }
        due.is("an 8th piece", x.piece(0, 1, 1, 0, NONE), -4);
        due.is("an 8th piece ON the last", x.piece(0, 1, 1, 0, 6), -4);
        due.is("an 8th piece ON none there: BAD is first", x.piece(0, 1, 1, 0, 7), -2);
        due.status(x, 1, 0, 2);
        due.is("count(0)", x.count(0), 7);
    }

    private static void pieceRefuses() {
        StandUpBook x = Due.told("book 30;piece 0 1 9 0;open 3;");
        x.opens(4);
        long before = x.digest();
        int[][] bad = {{-1, 1, 1, 0, -1}, {6, 1, 1, 0, -1}, {0, 0, 1, 0, -1}, {0, 10, 1, 0, -1}, {0, 1, 0, 0, -1},
            {0, 1, 10, 0, -1}, {0, 1, 1, -1, -1}, {0, 1, 1, 10, -1}, {0, 1, 1, 0, -2}, {0, 1, 1, 0, 1}};
        for (int[] b : bad) {
            due.is("piece(" + b[0] + ", " + b[1] + ", " + b[2] + ", " + b[3] + ", " + b[4] + ")",
                    x.piece(b[0], b[1], b[2], b[3], b[4]), -2);
        }
        due.unchanged("piece", x, before);
        due.status(x, bad.length, 0, 0);
        due.is("undo() behind a refused piece", x.undo(), 3);
    }

    private static void typeAndClear() {
        StandUpBook x = new StandUpBook();
        due.is("type(-1)", x.type(-1), -2);
        due.is("type(128)", x.type(128), -2);
        for (int i = 1; i <= 150; i++) {
            due.is("type the byte " + i, x.type(i == 1 ? 127 : i == 2 ? 0 : 'x'), i);
        }
        due.is("type the byte 151", x.type('x'), -4);
        due.is("type(128) on a full text", x.type(128), -2);
        due.status(x, 3, 0, 1);
        due.is("count(9)", x.count(9), 150);
        due.is("clear()", x.clear(), 150);
        due.is("clear() again", x.clear(), 0);
        due.is("type again", x.type('x'), 1);
    }

    private static void readTakesAllItems() {
        StandUpBook x = new StandUpBook();
        due.is("book alone", Due.readText(x, "book 6;"), 1);
        due.is("count(2)", x.count(2), 6);
        due.is("blanks anywhere", Due.readText(x, "   book   40 ; open 12  ;  "), 2);
        due.is("count(2)", x.count(2), 40);
        due.is("no blanks where none are needed", Due.readText(x, "book07;piece05 09 9 00;pull0 3;"), 3);
        due.is("count(2)", x.count(2), 7);
        due.is("of(0, 0)", x.of(0, 0), 5);
        due.is("of(0, 5)", x.of(0, 5), 3);
        due.is("pulled to and fro", Due.readText(x, "book 7;piece 0 1 1 0;pull 0 2;pull 0 0;"), 4);
        due.is("of(0, 5)", x.of(0, 5), 0);
        String full = "book 9;piece 0 1 2 3;on 1 2 3 4 0;on 2 3 4 5 1;piece 3 4 5 6;piece 4 5 6 7;piece 5 6 7 8;"
                + "on 0 7 8 9 5;";
        due.is("seven pieces", Due.readText(x, full), 8);
        long[] got = new long[5];
        for (int what = 0; what < 5; what++) {
            got[what] = x.of(6, what);
        }
        due.all("of(6, ..)", got, 0, 7, 8, 9, 5);
        due.is("of(2, 4)", x.of(2, 4), 1);
        due.is("of(3, 4)", x.of(3, 4), NONE);
        due.is("the same text again", x.read(), 8);
        x = new StandUpBook();
        due.is("an eighth piece", Due.readText(x, full + "piece 0 1 1 0;"), -10 - full.length());
        due.is("an eighth on", Due.readText(x, full + "on 0 1 1 0 0;"), -10 - full.length());
        due.is("an eighth on, cut", Due.readText(x, full + " on"), -11 - full.length());
    }

    private static void readOpensAndPulls() {
        StandUpBook x = Due.told("book 20;piece 5 1 9 0;open 12;piece 5 1 9 0;open 7;open 7;pull 1 3;pull 1 3;");
        due.is("count(1)", x.count(1), 7);
        due.is("WEAR of 0", x.of(0, 6), 17);
        due.is("WEAR of 1", x.of(1, 6), 5);
        due.is("TAB of 1", x.of(1, 5), 3);
        due.is("nothing to undo", x.undo(), -3);
        x = Due.told("book 20;piece 5 1 9 0;open 12;open 0;open 12;open 0;open 12;open 0;open 12;open 0;");
        due.is("WEAR of one that stuck on the way", x.of(0, 6), 84);
        due.is("STUCK", x.of(0, 7), 1);
    }

    private static void readTakesThePlace() {
        StandUpBook x = Due.told("book 20;piece 5 1 9 0;");
        x.opens(12);
        x.note(0, 1, 1, 1, 1);
        x.stood(1, 1);
        x.sticks(12, 5);
        x.image(0);
        x.opens(13);
        due.is("read", Due.readText(x, "book 21;open 3;"), 2);
        int[] counts = {0, 3, 21, 0, 0, 0, 0, 0, 0, 15};
        for (int what = 0; what < counts.length; what++) {
            due.is("count(" + what + ") behind read", x.count(what), counts[what]);
        }
        due.is("part(0)", x.part(0), 1);
        due.is("part(1)", x.part(1), 2);
        due.status(x, 1, 0, 0);
        due.is("from(0)", x.from(0), 1);
        due.is("count(0)", x.count(0), 1);
    }

    private static void fault(String text, int at) {
        due.is("read of '" + text + "'", Due.readText(new StandUpBook(), text), -10 - at);
    }

    private static void readFaultsAtWords() {
        fault("books 6;", 0);
        fault("boo", 0);
        fault("cook 6;", 0);
        fault("booka 6;", 0);
        fault("bookz 6;", 0);
        fault(" Book 6;", 1);
        fault("piece 0 1 1 0;book 6;", 0);
        fault("6;", 0);
        fault("; book 6;", 0);
        fault("book 6;book 7;", 7);
        fault("book 6; books 7;", 8);
        fault("book 6;;", 7);
        fault("book 6;7;", 7);
        fault("book book 6;", 5);
        fault("book ;", 5);
        fault("book 6 book", 7);
        fault("book 6 7;", 7);
        fault("book 6;open 3\t;", 13);
        fault("book 6;\u0000", 7);
        fault("book 6;open3x;", 12);
        fault("book 6;ope", 7);
        fault("book 6;pieces 0 1 1 0;", 7);
        fault("book 6;piece 0 1 1 0 0;", 21);
        fault("book 6;piece 0 1 1 0;on 0 1 1 0;", 31);
        fault("book 6;piece 0 1 1;", 18);
        fault("book 6;pull;", 11);
        fault("book 6;open 3 pull", 14);
        fault("book 6;open 3;open open;", 19);
    }

    private static void readFaultsAtNumbers() {
        fault("book 5;", 5);
        fault("book 41;", 5);
        fault("book 006;", 5);
        fault("book 0000000000000000006;", 5);
        fault("book -6;", 5);
        fault("book 6;piece 6 1 1 0;", 13);
        fault("book 6;piece 0 0 1 0;", 15);
        fault("book 6;piece 0 10 1 0;", 15);
        fault("book 6;piece 0 1 0 0;", 17);
        fault("book 6;piece 0 1 10 0;", 17);
        fault("book 6;piece 0 1 1 10;", 19);
        fault("book 6;on 0 1 1 0 0;", 18);
        fault("book 6;piece 0 1 1 0;on 0 1 1 0 1;", 32);
        fault("book 6;open 13;", 12);
        fault("book 6;open 012;", 12);
        fault("book 6;pull 0 0;", 12);
        fault("book 6;piece 0 1 1 0;pull 1 0;", 26);
        fault("book 6;piece 0 1 1 0;pull 0 4;", 28);
    }

    private static void readFaultsAtEnds() {
        fault("", 0);
        fault("   ", 3);
        fault("book", 4);
        fault("book  ", 6);
        fault("book 6", 6);
        fault("book 6  ", 8);
        fault("book 6;open", 11);
        fault("book 6;open 3", 13);
        fault("book 6;piece 0 1 1", 18);
        fault("book 6;on 0 1 1 0", 17);
    }

    private static void readFaultKeepsAll() {
        StandUpBook x = Due.told("book 20;piece 5 1 9 0;");
        x.opens(12);
        x.note(0, 1, 1, 1, 1);
        x.stood(1, 1);
        x.clear();
        Due.typeAll(x, "book 6;piece 0 1 1 0;open 4;pull 1 1;");
        long before = x.digest();
        due.is("read", x.read(), -43);
        due.unchanged("read", x, before);
        due.status(x, 0, 0, 0);
        due.is("undo()", x.undo(), 0);
    }

    private static void readOfClearedAndFullTexts() {
        StandUpBook x = new StandUpBook();
        due.is("read", Due.readText(x, "book 6;openx"), -17);
        due.is("what was cleared stands no more", Due.readText(x, "book 6;open"), -21);
        due.is("read", Due.readText(x, "book 6;open 12;"), 2);
        due.is("what was cleared stands no more", Due.readText(x, "book 6;open 1"), -23);
        x = new StandUpBook();
        due.is("150 letters", Due.readText(x, "x".repeat(150)), -10);
        due.is("145 figures", Due.readText(x, "book " + "1".repeat(145)), -15);
        x = new StandUpBook();
        due.is("150 blanks", Due.readText(x, " ".repeat(150)), -160);
        due.is("a book of 150 bytes", Due.readText(x, " ".repeat(143) + "book 9;"), 1);
        due.is("count(2)", x.count(2), 9);
    }
}
