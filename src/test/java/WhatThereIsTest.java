/** Promises 31 to 36: part, image, from, status, count, digest. */
public final class WhatThereIsTest {
    private static final int NONE = StandUpBook.NONE;
    private static final Due due = new Due("WhatThereIsTest");

    public static void main(String[] args) {
        part();
        imagesKeepAllThatTheyShould();
        imagesKeepTheirOwn();
        imagesRefuse();
        status();
        count();
        digest();
        digestOfANewOne();
        due.end();
    }

    private static void part() {
        StandUpBook x = Due.told("book 20;piece 0 1 9 0;");
        due.is("part(0)", x.part(0), 0);
        due.is("part(1)", x.part(1), 1);
        x.sticks(12, 2);
        due.is("part(0)", x.part(0), 4);
        due.is("part(1)", x.part(1), 5);
        due.is("part(2)", x.part(2), -2);
        due.is("part(-1)", x.part(-1), -2);
        due.status(x, 2, 0, 0);
    }

    private static void imagesKeepAllThatTheyShould() {
        StandUpBook x = Due.told("book 30;piece 5 1 9 0;on 0 2 8 1 0;");
        x.opens(3);
        x.opens(8);
        x.pulls(0, 2);
        x.note(0, 1, 2, 3, 4);
        x.stood(5, 3);
        long then = x.digest();
        due.is("image(0)", x.image(0), 1);
        x.opens(1);
        x.tears(1);
        x.note(0, 9, 9, 0, 9);
        x.stood(9, 0);
        x.undo();
        due.is("from(0)", x.from(0), 1);
        due.unchanged("from(0)", x, then);
        due.is("count(8)", x.count(8), 3);
        due.is("undo()", x.undo(), 8);
        due.is("of(0, 5)", x.of(0, 5), 0);
        due.is("undo()", x.undo(), 3);
        due.is("undo()", x.undo(), 0);
        due.is("undo()", x.undo(), -3);
        due.is("from(0) again", x.from(0), 1);
        due.unchanged("from(0) again", x, then);
    }

    private static void imagesKeepTheirOwn() {
        StandUpBook x = Due.told("book 30;piece 0 1 9 0;");
        x.image(0);
        x.opens(12);
        x.image(1);
        x.clear();
        Due.typeAll(x, "abc");
        x.sticks(12, 3);
        x.book(5);
        x.book(7);
        due.is("from(0)", x.from(0), 1);
        due.is("count(1)", x.count(1), 0);
        due.is("from(1)", x.from(1), 1);
        due.is("count(1)", x.count(1), 12);
        due.is("count(2)", x.count(2), 30);
        due.is("THE TEXT stays", x.count(9), 3);
        due.is("THE FRACTION stays", x.part(0), 7);
        due.status(x, 1, 0, 0);
        x.opens(4);
        x.image(1);
        due.is("from(0)", x.from(0), 1);
        due.is("from(1)", x.from(1), 1);
        due.is("an image kept anew", x.count(1), 4);
    }

    private static void imagesRefuse() {
        StandUpBook x = Due.told("book 30;piece 0 1 9 0;");
        long before = x.digest();
        due.is("image(2)", x.image(2), -2);
        due.is("image(-1)", x.image(-1), -2);
        due.is("from(2)", x.from(2), -2);
        due.is("from(-1)", x.from(-1), -2);
        due.is("from(1)", x.from(1), -3);
        due.unchanged("images", x, before);
        due.status(x, 4, 1, 0);
    }

    private static void status() {
        StandUpBook x = new StandUpBook();
        due.is("status(3)", x.status(3), NONE);
        due.is("status(-1)", x.status(-1), NONE);
        due.is("status(0)", x.status(0), 2);
        x.opens(0);
        x.undo();
        x.undo();
        for (int i = 0; i < 8; i++) {
            x.piece(0, 1, 1, 0, NONE);
        }
        x.tour(-1, 0);
        x.tour(0, 5);
        x.seats(-2);
        x.seats(168);
        x.read();
        x.first(0);
        x.part(2);
        x.count(10);
        due.status(x, 6, 3, 1);
    }

    private static void count() {
        StandUpBook x = Due.told("book 33;piece 5 1 9 0;piece 0 1 8 0;on 4 2 7 9 1;open 5;");
        for (int time = 0; time < 3; time++) {
            x.opens(12);
            x.opens(0);
        }
        x.opens(4);
        x.note(0, 1, 1, 1, 1);
        x.note(1, 1, 1, 1, 1);
        x.stood(1, 1);
        long[] got = new long[10];
        for (int what = 0; what < 10; what++) {
            got[what] = x.count(what);
        }
        int bytes = "book 33;piece 5 1 9 0;piece 0 1 8 0;on 4 2 7 9 1;open 5;".length();
        // WEAR: 5 and 7 and 12 each time; the WHEEL is STUCK at 84 - 12 + 4 = 76, the others at 5 + 7 + 60 + 4.
        due.all("count", got, 3, 4, 33, 2, 1, 228, 2, 1, 6, bytes);
        due.is("count(10)", x.count(10), -2);
        due.is("count(-1)", x.count(-1), -2);
        due.status(x, 2, 0, 0);
    }

    private static void digest() {
        StandUpBook x = Due.told("book 33;piece 5 1 9 0;piece 0 2 8 3;on 4 2 7 9 1;open 5;pull 0 3;");
        x.opens(9);
        x.note(2, 1, 12, 3, 4);
        x.note(1, 5, 6, 0, 20);
        x.stood(6, 5);
        x.sticks(12, 3);
        long h = 1511;
        for (int what = 0; what < 10; what++) {
            h = 31 * h + x.count(what);
        }
        long[] rest = {5, 1, 9, 0, -1, 3, 9, 0, 2, 8, 3, -1, 0, 9, 4, 2, 7, 9, 1, 0, 9,
            2, 1, 12, 3, 4, 1, 5, 6, 0, 20, 6, 5, x.part(0), x.part(1)};
        for (long v : rest) {
            h = 31 * h + v;
        }
        due.is("digest()", x.digest(), h);
        x.opens(-1);
        due.is("digest() has no STATUS", x.digest(), h);
        x.type('x');
        due.is("digest() has the TEXT's length", x.digest() == h ? 1 : 0, 0);
    }

    private static void digestOfANewOne() {
        long h = 1511;
        long[] values = {0, 0, 20, 0, 0, 0, 0, 0, 0, 0, 0, 1};
        for (long v : values) {
            h = 31 * h + v;
        }
        due.is("digest() of a new one", new StandUpBook().digest(), h);
    }
}
