import java.math.BigInteger;

/** Promises 31 to 36, a case each: part, image, from, status, count, digest. */
public final class EdgesOfWhatThereIsTest {
    private static final int NONE = StandUpBook.NONE;

    public static void main(String[] args) {
        Cases.run(EdgesOfWhatThereIsTest.class);
    }

    private static void counts(Due due, StandUpBook x, long... want) {
        long[] got = new long[want.length];
        for (int what = 0; what < want.length; what++) {
            got[what] = x.count(what);
        }
        due.all("count(0) .. count(9)", got, want);
    }

    /** h by numbers that can not run over, cut to a long at the end. */
    private static long digestOf(long... values) {
        BigInteger h = BigInteger.valueOf(1511);
        for (long v : values) {
            h = h.multiply(BigInteger.valueOf(31)).add(BigInteger.valueOf(v));
        }
        return h.longValue();
    }

    // ---- 31: part

    static void p31_is0By1AtFirst(Due due) {
        StandUpBook x = new StandUpBook();
        due.answers(x, "part(0)", () -> x.part(0), 0);
        due.answers(x, "part(1)", () -> x.part(1), 1);
    }

    static void p31_whatBelow0OrAbove1IsBad(Due due) {
        StandUpBook x = new StandUpBook();
        due.badOutside(x, "part", 0, 1, x::part);
    }

    static void p31_aRefusedSticksKeepsIt(Due due) {
        StandUpBook x = Due.told("book 20;piece 0 1 9 0;");
        x.sticks(12, 3);
        x.sticks(13, 3);
        x.sticks(12, 11);
        due.is("part(0)", x.part(0), 7);
        due.is("part(1)", x.part(1), 10);
    }

    static void p31_itIsTheLastOne(Due due) {
        StandUpBook x = Due.told("book 20;piece 0 1 9 0;");
        x.sticks(12, 3);
        x.sticks(12, 0);
        due.is("part(0)", x.part(0), 1);
        due.is("part(1)", x.part(1), 1);
    }

    // ---- 32: image

    static void p32_image0AndImage1AreTaken(Due due) {
        StandUpBook x = new StandUpBook();
        due.answers(x, "image(0)", () -> x.image(0), 1);
        due.answers(x, "image(1)", () -> x.image(1), 1);
    }

    static void p32_below0OrAbove1IsBad(Due due) {
        StandUpBook x = new StandUpBook();
        due.badOutside(x, "image", 0, 1, x::image);
        due.is("from(0)", x.from(0), -3);
        due.is("from(1)", x.from(1), -3);
    }

    static void p32_ofAnEmptyBook(Due due) {
        StandUpBook x = new StandUpBook();
        x.image(0);
        x.piece(0, 1, 1, 0, NONE);
        x.opens(5);
        due.is("from(0)", x.from(0), 1);
        counts(due, x, 0, 0, 20, 0, 0, 0, 0, 0, 0, 0);
    }

    static void p32_ofAFullBook(Due due) {
        StandUpBook x = new StandUpBook();
        for (int i = 0; i < 7; i++) {
            x.piece(5, 1, 9, i, i - 1);
        }
        for (int n = 0; n < 6; n++) {
            x.note(n, 1 + n, 2 + n, 3, 4 + n);
            x.stood(n, 127 - n);
            x.opens(2 * n + 1);
        }
        long before = x.digest();
        x.image(1);
        x.book(6);
        due.is("from(1)", x.from(1), 1);
        due.unchanged("from(1)", x, before);
        for (int n = 4; n >= 0; n--) {
            due.is("undo()", x.undo(), 2 * n + 1);
        }
        due.is("undo()", x.undo(), 0);
    }

    static void p32_keptAgainTakesThePlaceOfTheOldOne(Due due) {
        StandUpBook x = new StandUpBook();
        x.opens(3);
        x.image(0);
        x.opens(7);
        x.image(0);
        x.opens(9);
        due.is("from(0)", x.from(0), 1);
        due.is("count(1)", x.count(1), 7);
    }

    static void p32_theOtherImageStays(Due due) {
        StandUpBook x = new StandUpBook();
        x.opens(3);
        x.image(0);
        x.opens(7);
        x.image(1);
        due.is("from(0)", x.from(0), 1);
        due.is("count(1)", x.count(1), 3);
        due.is("from(1)", x.from(1), 1);
        due.is("count(1)", x.count(1), 7);
    }

    static void p32_whatIsDoneLaterDoesNotChangeIt(Due due) {
        StandUpBook x = Due.told("book 20;piece 5 1 9 0;piece 0 1 9 0;");
        x.opens(3);
        x.note(0, 1, 2, 3, 4);
        x.stood(1, 1);
        long before = x.digest();
        x.image(0);
        x.pulls(0, 3);
        x.forget(0);
        x.note(1, 9, 9, 0, 9);
        x.forget(1);
        x.stood(9, 0);
        x.undo();
        x.undo();
        x.opens(9);
        x.tears(0);
        due.is("from(0)", x.from(0), 1);
        due.unchanged("from(0)", x, before);
        due.is("undo()", x.undo(), 0);
        due.is("of(0, 6)", x.of(0, 6), 0);
    }

    // ---- 33: from

    static void p33_below0OrAbove1IsBad(Due due) {
        StandUpBook x = new StandUpBook();
        x.image(0);
        x.image(1);
        x.opens(5);
        due.badOutside(x, "from", 0, 1, x::from);
    }

    static void p33_noneKeptIsNo(Due due) {
        StandUpBook x = Due.told("book 20;piece 0 1 9 0;open 4;");
        due.no(x, "from(0)", () -> x.from(0));
        due.no(x, "from(1)", () -> x.from(1));
    }

    static void p33_justTheOtherOneKeptIsNo(Due due) {
        StandUpBook x = Due.told("book 20;piece 0 1 9 0;open 4;");
        x.image(1);
        due.no(x, "from(0)", () -> x.from(0));
        due.is("from(1)", x.from(1), 1);
        StandUpBook y = new StandUpBook();
        y.image(0);
        due.no(y, "from(1)", () -> y.from(1));
    }

    static void p33_itIsKeptBehindItStill(Due due) {
        StandUpBook x = new StandUpBook();
        x.opens(3);
        x.image(0);
        for (int o = 4; o <= 6; o++) {
            x.opens(o);
            due.is("from(0)", x.from(0), 1);
            due.is("count(1)", x.count(1), 3);
        }
    }

    static void p33_whatIsDoneBehindItDoesNotChangeTheImage(Due due) {
        StandUpBook x = Due.told("book 20;piece 5 1 9 0;");
        x.opens(3);
        x.note(0, 1, 2, 3, 4);
        x.stood(1, 1);
        long before = x.digest();
        x.image(0);
        x.from(0);
        x.undo();
        x.opens(9);
        x.pulls(0, 3);
        x.forget(0);
        x.note(0, 9, 9, 0, 9);
        x.forget(1);
        x.stood(9, 0);
        due.is("from(0)", x.from(0), 1);
        due.unchanged("from(0)", x, before);
    }

    static void p33_whatMayBeUndoneIsTheImages(Due due) {
        StandUpBook x = new StandUpBook();
        x.image(0);
        x.opens(3);
        x.opens(5);
        x.image(1);
        due.is("from(0)", x.from(0), 1);
        due.no(x, "undo()", x::undo);
        due.is("from(1)", x.from(1), 1);
        due.is("count(8)", x.count(8), 2);
        due.is("undo()", x.undo(), 3);
        due.is("undo()", x.undo(), 0);
        due.no(x, "undo()", x::undo);
    }

    static void p33_whatMayBeUndoneIsTheImagesAlsoBehindOtherOpenings(Due due) {
        StandUpBook x = Due.told("book 20;piece 0 1 9 0;");
        for (int o = 1; o <= 6; o++) {
            x.opens(o);
        }
        x.image(0);
        for (int o = 12; o >= 7; o--) {
            x.opens(o);
        }
        due.is("from(0)", x.from(0), 1);
        for (int o = 5; o >= 0; o--) {
            due.is("undo()", x.undo(), o);
            due.is("WEAR", x.of(0, 6), o);
        }
        due.no(x, "undo()", x::undo);
    }

    static void p33_theTextTheFractionAndStatusStay(Due due) {
        StandUpBook x = Due.told("book 20;piece 0 1 9 0;");
        x.image(0);
        x.type('x');
        x.sticks(12, 3);
        x.opens(13);
        x.opens(0);
        x.from(0);
        due.is("count(9)", x.count(9), 23);
        due.is("part(0)", x.part(0), 7);
        due.status(x, 1, 1, 0);
    }

    static void p33_theOtherImageStays(Due due) {
        StandUpBook x = new StandUpBook();
        x.opens(3);
        x.image(0);
        x.opens(7);
        x.image(1);
        x.from(0);
        due.is("from(1)", x.from(1), 1);
        due.is("count(1)", x.count(1), 7);
    }

    // ---- 34: status

    static void p34_isAll0AtFirst(Due due) {
        StandUpBook x = new StandUpBook();
        due.answers(x, "status(0)", () -> x.status(0), 0);
        due.answers(x, "status(1)", () -> x.status(1), 0);
        due.answers(x, "status(2)", () -> x.status(2), 0);
    }

    static void p34_anotherWhatIsMinus1AndCountsAsBad(Due due) {
        StandUpBook x = new StandUpBook();
        for (int what : new int[] {Integer.MIN_VALUE, -1, 3, Integer.MAX_VALUE}) {
            due.badBy(-1, x, "status(" + what + ")", () -> x.status(what));
        }
        due.status(x, 4, 0, 0);
    }

    static void p34_refusedByOtherNumbersCountAsBad(Due due) {
        StandUpBook x = new StandUpBook();
        x.tour(1, NONE);
        x.seats(-2);
        x.status(3);
        due.status(x, 3, 0, 0);
    }

    static void p34_notSoManyNoneAndFaultsDoNotCount(Due due) {
        StandUpBook x = Due.told("book 20;piece 0 1 9 0;piece 0 1 1 1;");
        due.is("tour(2, -1)", x.tour(2, NONE), NONE);
        due.is("tour(1, 13)", x.tour(1, 13), -5);
        due.is("seats(169)", x.seats(169), -5);
        due.is("first(1)", x.first(1), NONE);
        due.is("turns(1, 1)", x.turns(1, 1), NONE);
        due.is("clear()", x.clear(), 36);
        due.is("read()", x.read(), -10);
        due.is("lasts() of none", new StandUpBook().lasts(), NONE);
        due.status(x, 0, 0, 0);
    }

    static void p34_eachReasonApart(Due due) {
        StandUpBook x = new StandUpBook();
        x.undo();
        due.status(x, 0, 1, 0);
        x.opens(0);
        x.from(0);
        due.status(x, 0, 3, 0);
        for (int i = 0; i < 9; i++) {
            x.piece(0, 1, 1, 0, NONE);
        }
        due.status(x, 0, 3, 2);
        x.seen(13);
        due.status(x, 1, 3, 2);
    }

    static void p34_everyCallThatMayBeBadCounts(Due due) {
        StandUpBook x = Due.told("book 20;piece 0 1 9 0;");
        int[] answers = {x.book(5), x.piece(6, 1, 1, 0, NONE), x.type(128), x.opens(13), x.pulls(1, 0), x.tears(1),
            x.of(0, 8), x.gives(0, 0, 3), x.height(0, 13), x.seen(13), x.first(1), x.best(2), x.out(2),
            x.place(0, 0, 2), x.turns(0, 2), x.note(0, 1, 0, 0, 21), x.stood(0, 2), x.forget(2), x.is(1), x.look(1),
            x.where(0, 2), x.sticks(0, 11), x.readers(0, 61), (int) x.part(2), x.image(2), x.from(2), x.count(10)};
        for (int n = 0; n < answers.length; n++) {
            due.is("the answer " + n, answers[n], -2);
        }
        due.status(x, answers.length, 0, 0);
    }

    // ---- 35: count

    static void p35_ofANewOne(Due due) {
        counts(due, new StandUpBook(), 0, 0, 20, 0, 0, 0, 0, 0, 0, 0);
    }

    static void p35_ofAFullOne(Due due) {
        StandUpBook x = new StandUpBook();
        x.book(40);
        for (int i = 0; i < 7; i++) {
            x.piece(5, 1, 9, 0, NONE);
        }
        for (int n = 0; n < 6; n++) {
            x.note(0, 1, 1, 1, 1);
            x.stood(1, 1);
        }
        Due.openToAndFro(x, 5);
        Due.typeAll(x, "x".repeat(150));
        counts(due, x, 7, 12, 40, 7, 0, 7 * 60, 6, 6, 5, 150);
        Due.openToAndFro(x, 2);
        counts(due, x, 7, 12, 40, 0, 7, 7 * 84, 6, 6, 6, 150);
    }

    static void p35_whatBelow0OrAbove9IsBad(Due due) {
        StandUpBook x = new StandUpBook();
        due.badOutside(x, "count", 0, 9, x::count);
    }

    static void p35_seenNowIsHowManyAndNotWhich(Due due) {
        StandUpBook x = Due.told("book 20;piece 0 1 9 1;piece 0 1 9 0;piece 0 1 9 0;open 12;");
        due.is("seen(12)", x.seen(12), 6);
        due.is("count(3)", x.count(3), 2);
    }

    // ---- 36: digest

    static void p36_ofANewOne(Due due) {
        StandUpBook x = new StandUpBook();
        due.answers(x, "digest()", x::digest, digestOf(0, 0, 20, 0, 0, 0, 0, 0, 0, 0, 0, 1));
    }

    static void p36_hasNoneAsMinus1(Due due) {
        StandUpBook x = new StandUpBook();
        x.piece(3, 4, 5, 6, NONE);
        due.is("digest()", x.digest(), digestOf(1, 0, 20, 0, 0, 0, 0, 0, 0, 0, 3, 4, 5, 6, -1, 0, 0, 0, 1));
    }

    static void p36_hasOnTabAndWear(Due due) {
        StandUpBook x = Due.told("book 20;piece 5 1 9 0;on 0 2 8 1 0;open 3;pull 0 2;");
        // At 3 the WHEEL is 0, the VEE 2: one is SEEN.
        due.is("digest()", x.digest(), digestOf(2, 3, 20, 1, 0, 6, 0, 0, 0, 51,
                5, 1, 9, 0, -1, 2, 3, 0, 2, 8, 1, 0, 0, 3, 0, 1));
    }

    static void p36_hasNotesStoodAndTheFractionInThisOrder(Due due) {
        StandUpBook x = new StandUpBook();
        x.piece(0, 1, 9, 0, NONE);
        x.stood(12, 1);
        x.stood(0, 0);
        x.note(0, 9, 12, 3, 20);
        x.note(0, 1, 2, 3, 4);
        x.sticks(12, 3);
        due.is("digest()", x.digest(), digestOf(1, 0, 20, 0, 0, 0, 2, 2, 0, 0, 0, 1, 9, 0, -1, 0, 0,
                0, 9, 12, 3, 20, 0, 1, 2, 3, 4, 12, 1, 0, 0, 7, 10));
    }

    static void p36_runsOverAsALongDoes(Due due) {
        StandUpBook x = new StandUpBook();
        long[] values = new long[10 + 7 * 7 + 2];
        long[] first = {7, 0, 20, 0, 0, 0, 0, 0, 0, 0};
        System.arraycopy(first, 0, values, 0, 10);
        for (int i = 0; i < 7; i++) {
            x.piece(5, 9, 9, 9, i - 1);
            System.arraycopy(new long[] {5, 9, 9, 9, i - 1, 0, 0}, 0, values, 10 + 7 * i, 7);
        }
        values[values.length - 1] = 1;
        due.is("digest()", x.digest(), digestOf(values));
    }

    static void p36_hasNothingOfStatusImagesAndBytes(Due due) {
        StandUpBook x = Due.told("book 20;");
        long before = x.digest();
        x.opens(0);
        x.opens(13);
        x.image(0);
        x.clear();
        Due.typeAll(x, "xxxxxxxx");
        due.unchanged("status, image, type", x, before);
    }

    static void p36_hasNothingOfTornForgottenAndOldOnes(Due due) {
        StandUpBook x = new StandUpBook();
        long before = x.digest();
        x.piece(0, 1, 9, 0, NONE);
        x.note(0, 1, 2, 3, 4);
        x.stood(1, 1);
        x.forget(0);
        x.forget(1);
        x.book(20);
        due.unchanged("book(20)", x, before);
    }
}
