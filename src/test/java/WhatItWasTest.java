/** Promises 22 to 30: note, stood, forget, is, look, where, seats, sticks, readers. */
public final class WhatItWasTest {
    private static final int NONE = StandUpBook.NONE;
    private static final Due due = new Due("WhatItWasTest");

    public static void main(String[] args) {
        notes();
        noteRefuses();
        stoodOnes();
        forget();
        is();
        look();
        whereRows();
        whereTalls();
        seats();
        seatsOfTwo();
        sticks();
        sticksOfStuckOnes();
        readers();
        readersWear();
        nothingIsChanged();
        due.end();
    }

    private static void notes() {
        StandUpBook x = Due.told("book 20;piece 0 1 6 0;piece 0 1 6 0;");
        due.is("note", x.note(0, 1, 0, 0, 0), 1);
        due.is("note", x.note(1, 9, 12, 3, 20), 2);
        for (int many = 3; many <= 6; many++) {
            due.is("note", x.note(1, 5, 5, 1, 2), many);
        }
        due.is("a 7th note", x.note(1, 5, 5, 1, 2), -4);
        due.is("a 7th note, BAD", x.note(2, 5, 5, 1, 2), -2);
        due.is("count(6)", x.count(6), 6);
        due.status(x, 1, 0, 1);
    }

    private static void noteRefuses() {
        StandUpBook x = Due.told("book 20;piece 0 1 6 0;");
        int[][] bad = {{-1, 1, 0, 0, 0}, {1, 1, 0, 0, 0}, {0, 0, 0, 0, 0}, {0, 10, 0, 0, 0}, {0, 1, -1, 0, 0},
            {0, 1, 13, 0, 0}, {0, 1, 0, -1, 0}, {0, 1, 0, 4, 0}, {0, 1, 0, 0, -1}, {0, 1, 0, 0, 21}};
        long before = x.digest();
        for (int[] b : bad) {
            due.is("note(" + b[0] + ", " + b[1] + ", " + b[2] + ", " + b[3] + ", " + b[4] + ")",
                    x.note(b[0], b[1], b[2], b[3], b[4]), -2);
        }
        due.unchanged("note", x, before);
        due.status(x, bad.length, 0, 0);
    }

    private static void stoodOnes() {
        StandUpBook x = Due.told("book 20;piece 0 1 6 0;piece 0 1 6 0;");
        due.is("stood(13, 0)", x.stood(13, 0), -2);
        due.is("stood(-1, 0)", x.stood(-1, 0), -2);
        due.is("stood(0, 4)", x.stood(0, 4), -2);
        due.is("stood(0, -1)", x.stood(0, -1), -2);
        for (int many = 1; many <= 6; many++) {
            due.is("stood", x.stood(12, 3), many);
        }
        due.is("a 7th stood", x.stood(0, 0), -4);
        due.is("a 7th stood, BAD", x.stood(0, 4), -2);
        due.is("count(7)", x.count(7), 6);
        due.status(x, 5, 0, 1);
    }

    private static void forget() {
        StandUpBook x = Due.told("book 20;piece 0 1 6 0;");
        x.note(0, 1, 0, 0, 0);
        x.note(0, 1, 0, 0, 0);
        x.stood(0, 0);
        due.is("forget(2)", x.forget(2), -2);
        due.is("forget(-1)", x.forget(-1), -2);
        due.is("forget(0)", x.forget(0), 2);
        due.is("NOTES", x.count(6), 0);
        due.is("STOOD", x.count(7), 1);
        due.is("forget(1)", x.forget(1), 1);
        due.is("STOOD", x.count(7), 0);
        due.is("forget(1)", x.forget(1), 0);
        due.status(x, 2, 0, 0);
    }

    private static void is() {
        StandUpBook x = Due.told("book 20;piece 0 1 6 0;piece 0 1 7 0;");
        due.is("is(0) by no NOTES", x.is(0), 63);
        // 7 TALL at 6, pulled by 2: 3, 4, 7, 3, 4, 5.
        x.note(0, 7, 6, 2, 3);
        due.is("is(0): VEE, FLAP", x.is(0), 1 + 8);
        due.is("is(1), no NOTES of it", x.is(1), 63);
        x.note(1, 7, 6, 2, 4);
        due.is("is(1): TENT, STAGE", x.is(1), 2 + 16);
        // 7 TALL at 3: 1, 1, 3, 0, 2, 0.
        x.note(0, 7, 3, 0, 0);
        due.is("is(0): FLAP", x.is(0), 8);
        x.note(0, 7, 3, 0, 1);
        due.is("is(0): no KIND", x.is(0), 0);
        due.is("is(2)", x.is(2), -2);
        due.is("is(-1)", x.is(-1), -2);
        due.status(x, 2, 0, 0);
    }

    private static void look() {
        StandUpBook x = Due.told("book 20;piece 0 1 6 0;piece 0 1 1 0;");
        // 6 TALL at 3: 1, 1, 3, 0, 2, 0; at 2: 1, 1, 2, 0, 1, 0.
        due.is("look(0)", x.look(0), 30);
        x.note(0, 7, 6, 2, 3);
        // VEE and FLAP differ first at 2: 1, 0.
        due.is("look(0) of VEE, FLAP", x.look(0), 20);
        // FLAP and WHEEL: those that are 0 if 9 TALL at 3; 1 TALL they differ at 12 alone, pulled.
        x.note(1, 9, 3, 0, 0);
        due.is("is(1)", x.is(1), 8 + 32);
        due.is("look(1) of FLAP, WHEEL", x.look(1), 121);
        x.note(0, 7, 3, 0, 0);
        due.is("look(0) of one KIND", x.look(0), 0);
        x.note(0, 7, 3, 0, 20);
        due.is("look(0) of no KIND", x.look(0), NONE);
        due.is("look(2)", x.look(2), -2);
        due.is("look(-1)", x.look(-1), -2);
        due.status(x, 2, 0, 0);
    }

    private static void whereRows() {
        StandUpBook x = Due.told("book 20;piece 0 1 6 5;piece 0 1 3 4;");
        due.is("where(0, 0) of none", x.where(0, 0), 1023);
        due.is("where(0, 1) of none", x.where(0, 1), 1022);
        x.stood(12, 1);
        due.is("where(0, 0): ahead of 4", x.where(0, 0), 15);
        due.is("where(1, 0): behind 5", x.where(1, 0), 64 + 128 + 256 + 512);
        x.stood(4, 3);
        due.is("where(0, 0), another opening", x.where(0, 0), 0);
        due.is("ROW as it was", x.of(0, 3), 5);
        due.is("where(2, 0)", x.where(2, 0), -2);
        due.is("where(-1, 0)", x.where(-1, 0), -2);
        due.is("where(0, 2)", x.where(0, 2), -2);
        due.is("where(0, -1)", x.where(0, -1), -2);
        due.status(x, 4, 0, 0);
    }

    private static void whereTalls() {
        StandUpBook x = Due.told("book 20;piece 0 1 6 5;piece 0 1 3 4;");
        x.stood(12, 3);
        due.is("where(0, 1): above 3", x.where(0, 1), 1008);
        due.is("where(1, 1): below 6", x.where(1, 1), 62);
        x.stood(4, 1 + 2);
        due.is("where(1, 1): 1 at 4", x.where(1, 1), 8 + 16 + 32);
        due.is("TALL as it was", x.of(1, 2), 3);
    }

    private static void seats() {
        StandUpBook x = new StandUpBook();
        due.is("seats(-1) of none", x.seats(NONE), 16);
        int k = 0;
        for (int i = 0; i < 4; i++) {
            for (int j = 0; j < 4; j++) {
                due.is("seats(" + k + ")", x.seats(k), 13 * i + j);
                k++;
            }
        }
        due.is("seats(16)", x.seats(16), -5);
        due.is("seats(greatest)", x.seats(Integer.MAX_VALUE), -5);
        due.is("seats(-2)", x.seats(-2), -10);
        due.status(x, 1, 0, 0);
    }

    private static void seatsOfTwo() {
        // A VEE 9 TALL: the second one gets 8 - 2 at 11 and 9 - 3 at 12, less elsewhere; the first one 1, for 0.
        StandUpBook x = Due.told("book 20;piece 0 1 9 0;");
        due.is("seats(-1)", x.seats(NONE), 8);
        for (int i = 0; i < 4; i++) {
            due.is("seats(" + 2 * i + ")", x.seats(2 * i), 13 * i + 11);
            due.is("seats(" + (2 * i + 1) + ")", x.seats(2 * i + 1), 13 * i + 12);
        }
        due.is("seats(8)", x.seats(8), -5);
    }

    private static void fraction(StandUpBook x, int o, int c, long above, long below) {
        due.is("sticks(" + o + ", " + c + ")", x.sticks(o, c), 1);
        due.is("part(0)", x.part(0), above);
        due.is("part(1)", x.part(1), below);
    }

    private static void sticks() {
        fraction(new StandUpBook(), 12, 3, 0, 1);
        StandUpBook x = Due.told("book 20;piece 0 1 9 0;");
        fraction(x, 12, 3, 7, 10);
        fraction(x, 12, 4, 3, 5);
        fraction(x, 12, 0, 1, 1);
        fraction(x, 12, 10, 0, 1);
        fraction(x, 1, 3, 0, 1);
        x.piece(0, 1, 3, 1, NONE);
        fraction(x, 12, 3, 91, 100);
        fraction(x, 12, 5, 3, 4);
        x = Due.told("book 20;piece 0 1 9 1;on 0 1 3 0 0;");
        // Neither lies: 1; the one above lies: it is as HIGH as the other, and ahead: 1; the other lies: 1.
        fraction(x, 12, 5, 3, 4);
        due.is("sticks(13, 0)", x.sticks(13, 0), -2);
        due.is("sticks(-1, 0)", x.sticks(-1, 0), -2);
        due.is("sticks(0, 11)", x.sticks(0, 11), -2);
        due.is("sticks(0, -1)", x.sticks(0, -1), -2);
        due.is("part(0) behind refused ones", x.part(0), 3);
        due.status(x, 4, 0, 0);
    }

    private static void sticksOfStuckOnes() {
        String worn = "book 20;piece 5 1 9 0;open 12;open 0;open 12;open 0;open 12;open 0;open 3;piece 0 1 4 0;"
                + "on 0 1 5 1 0;";
        StandUpBook x = Due.told(worn);
        due.is("STUCK", x.of(0, 7), 1);
        // VEEs of 4 and 5, each apart, on the page or on the STUCK one: both are SEEN if they stand.
        fraction(x, 12, 1, 9, 5);
        fraction(x, 12, 0, 2, 1);
    }

    private static void readers() {
        StandUpBook x = Due.told("book 20;piece 0 1 9 0;");
        due.is("readers(1, 0)", x.readers(1, 0), 0);
        due.is("readers(0, 1): to 0", x.readers(0, 1), 0);
        due.is("readers(1, 1): to 3", x.readers(1, 1), 1);
        due.is("readers(999999, 60)", x.readers(999999, 60) <= 60 ? 1 : 0, 1);
        due.is("readers(-1, 0)", x.readers(-1, 0), -2);
        due.is("readers(1000000, 0)", x.readers(1000000, 0), -2);
        due.is("readers(0, -1)", x.readers(0, -1), -2);
        due.is("readers(0, 61)", x.readers(0, 61), -2);
        due.status(x, 4, 0, 0);
    }

    private static void readersWear() {
        // Opened by all of them till it is STUCK: then it is SEEN no more, however many come.
        StandUpBook x = Due.told("book 20;piece 5 1 9 0;");
        int before = 0;
        for (int n = 1; n <= 60; n++) {
            int seen = x.readers(5, n);
            due.is("one more reader", seen - before >= 0 && seen - before <= 1 ? 1 : 0, 1);
            due.is("behind 75 steps none is SEEN", n <= 40 || seen == before ? 1 : 0, 1);
            before = seen;
        }
        due.is("WEAR as it was", x.of(0, 6), 0);
        due.is("OPEN as it was", x.count(1), 0);
    }

    private static void nothingIsChanged() {
        StandUpBook x = Due.told("book 20;piece 5 1 9 0;on 4 2 8 1 0;piece 0 3 7 2;open 5;pull 0 1;");
        x.opens(9);
        x.note(0, 1, 12, 0, 1);
        x.stood(6, 3);
        long before = x.digest();
        x.is(0);
        x.look(0);
        x.where(1, 0);
        x.where(1, 1);
        x.seats(NONE);
        x.seats(1);
        x.readers(77, 60);
        due.unchanged("asking", x, before);
        x.sticks(6, 3);
        x.sticks(0, 3);
        due.unchanged("sticks at 0 is 0 by 1, as at first", x, before);
        due.status(x, 0, 0, 0);
    }
}
