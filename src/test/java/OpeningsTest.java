/** Promises 7 to 11: opens, pulls, tears, undo, of. */
public final class OpeningsTest {
    private static final int NONE = StandUpBook.NONE;
    private static final Due due = new Due("OpeningsTest");

    public static void main(String[] args) {
        opensAndWears();
        opensSticks();
        opensRefuses();
        pulls();
        tearsWithAllOnIt();
        tearsAndCountsOn();
        tearsForgets();
        undoGoesBack();
        undoOfSixAtMost();
        undoKeepsNotes();
        of();
        due.end();
    }

    private static void opensAndWears() {
        StandUpBook x = Due.told("book 20;piece 0 1 6 3;piece 2 1 5 1;");
        due.is("opens(1)", x.opens(1), 0);
        due.is("opens(4)", x.opens(4), 2);
        due.is("opens(12)", x.opens(12), 1);
        due.is("count(1)", x.count(1), 12);
        due.is("of(0, 6)", x.of(0, 6), 12);
        due.is("opens(3)", x.opens(3), 2);
        due.is("of(0, 6)", x.of(0, 6), 21);
        due.is("count(5)", x.count(5), 42);
    }

    private static void opensSticks() {
        StandUpBook x = Due.told("book 20;piece 5 1 9 0;on 0 1 6 1 0;");
        int o = 0;
        for (int time = 0; time < 6; time++) {
            o = 12 - o;
            due.is("opens(" + o + ")", x.opens(o), o == 0 ? 0 : 3);
        }
        due.is("WEAR", x.of(0, 6), 72);
        due.is("opens(3)", x.opens(3), 2);
        due.is("WEAR", x.of(0, 6), 75);
        due.is("STUCK", x.of(0, 7), 1);
        due.is("the one ON it is not", x.of(1, 7), 0);
        due.is("opens(12)", x.opens(12), 2);
        due.is("a STUCK one does not WEAR", x.of(0, 6), 75);
        due.is("WEAR of the one ON it", x.of(1, 6), 84);
        due.is("HEIGHT of a STUCK one", x.height(0, 12), 0);
        due.is("HEIGHT of the one ON it", x.height(1, 12), 6);
        due.is("gives, STUCK or not", x.gives(0, 12, 0), 9);
        due.is("count(4)", x.count(4), 1);
    }

    private static void opensRefuses() {
        StandUpBook x = Due.told("book 20;piece 0 1 6 3;open 5;");
        long before = x.digest();
        due.is("opens(-1)", x.opens(-1), -2);
        due.is("opens(13)", x.opens(13), -2);
        due.is("opens(5)", x.opens(5), -3);
        due.unchanged("opens", x, before);
        due.status(x, 2, 1, 0);
    }

    private static void pulls() {
        StandUpBook x = Due.told("book 20;piece 5 1 6 3;piece 0 1 1 1;open 5;");
        due.is("pulls(0, 3)", x.pulls(0, 3), 0);
        due.is("height(0, 6)", x.height(0, 6), 6);
        due.is("pulls(0, 1)", x.pulls(0, 1), 3);
        due.is("pulls(1, 2) of a VEE", x.pulls(1, 2), 0);
        long before = x.digest();
        due.is("pulls(0, 1)", x.pulls(0, 1), -3);
        due.is("pulls(0, 4)", x.pulls(0, 4), -2);
        due.is("pulls(0, -1)", x.pulls(0, -1), -2);
        due.is("pulls(2, 0)", x.pulls(2, 0), -2);
        due.is("pulls(-1, 0)", x.pulls(-1, 0), -2);
        due.unchanged("pulls", x, before);
        due.status(x, 4, 1, 0);
        due.is("count(8)", x.count(8), 3);
        due.is("undo()", x.undo(), 5);
        due.is("of(1, 5)", x.of(1, 5), 0);
        due.is("of(0, 5)", x.of(0, 5), 1);
        due.is("undo()", x.undo(), 5);
        due.is("of(0, 5)", x.of(0, 5), 3);
    }

    private static void tearsWithAllOnIt() {
        StandUpBook x = Due.told("book 20;piece 0 1 1 0;on 1 2 2 1 0;on 2 3 3 2 1;on 3 4 4 3 0;on 4 5 5 4 3;");
        due.is("tears(1)", x.tears(1), 2);
        due.is("count(0)", x.count(0), 3);
        due.is("tears(0)", x.tears(0), 3);
        due.is("count(0)", x.count(0), 0);
        due.is("tears(0)", x.tears(0), -2);
        due.is("tears(-1)", x.tears(-1), -2);
        due.status(x, 2, 0, 0);
    }

    private static void tearsAndCountsOn() {
        StandUpBook x = Due.told("book 20;piece 0 1 1 0;piece 1 2 2 1;on 2 3 3 2 0;on 3 4 4 3 1;on 4 5 5 4 2;"
                + "on 5 6 6 5 3;open 3;pull 5 2;");
        due.is("tears(0)", x.tears(0), 3);
        due.is("count(0)", x.count(0), 3);
        long[][] want = {{1, 2, 2, 1, NONE, 0, 3, 0}, {3, 4, 4, 3, 0, 0, 3, 0}, {5, 6, 6, 5, 1, 2, 3, 0}};
        for (int i = 0; i < 3; i++) {
            long[] got = new long[8];
            for (int what = 0; what < 8; what++) {
                got[what] = x.of(i, what);
            }
            due.all("of(" + i + ", ..)", got, want[i]);
        }
        due.is("of(3, 0)", x.of(3, 0), -2);
        due.is("tears(2), ON another", x.tears(2), 1);
        due.is("piece", x.piece(0, 1, 1, 0, 1), 2);
    }

    private static void tearsForgets() {
        StandUpBook x = Due.told("book 20;piece 0 1 1 0;piece 1 2 2 1;");
        x.note(1, 1, 1, 1, 1);
        x.stood(1, 3);
        x.tears(2);
        due.is("NOTES behind a refused one", x.count(6), 1);
        due.is("tears(0)", x.tears(0), 1);
        due.is("NOTES", x.count(6), 0);
        due.is("STOOD", x.count(7), 0);
        due.is("undo()", x.undo(), 0);
        due.is("NOTES behind undo", x.count(6), 0);
        due.is("STOOD behind undo", x.count(7), 0);
        due.is("count(0)", x.count(0), 2);
        due.is("of(0, 0)", x.of(0, 0), 0);
    }

    private static void undoGoesBack() {
        StandUpBook x = Due.told("book 20;piece 5 1 6 3;on 0 1 1 1 0;");
        long[] digests = new long[4];
        digests[0] = x.digest();
        x.opens(4);
        digests[1] = x.digest();
        x.pulls(0, 2);
        digests[2] = x.digest();
        x.tears(0);
        due.is("undo()", x.undo(), 4);
        due.unchanged("undo of tears", x, digests[2]);
        due.is("undo()", x.undo(), 4);
        due.unchanged("undo of pulls", x, digests[1]);
        due.is("undo()", x.undo(), 0);
        due.unchanged("undo of opens", x, digests[0]);
        due.is("undo()", x.undo(), -3);
        due.status(x, 0, 1, 0);
    }

    private static void undoOfSixAtMost() {
        StandUpBook x = Due.told("book 20;piece 0 1 6 3;");
        for (int o = 1; o <= 9; o++) {
            x.opens(o);
            due.is("count(8)", x.count(8), Math.min(6, o));
        }
        for (int o = 8; o >= 3; o--) {
            due.is("undo()", x.undo(), o);
            due.is("WEAR behind it", x.of(0, 6), o);
        }
        due.is("a seventh undo()", x.undo(), -3);
        x.opens(7);
        due.is("piece", x.piece(0, 1, 1, 1, NONE), 1);
        due.is("undo() behind a piece", x.undo(), -3);
    }

    private static void undoKeepsNotes() {
        StandUpBook x = Due.told("book 20;piece 0 1 6 3;");
        x.opens(5);
        x.note(0, 6, 6, 0, 3);
        x.stood(6, 1);
        due.is("undo()", x.undo(), 0);
        due.is("NOTES", x.count(6), 1);
        due.is("STOOD", x.count(7), 1);
    }

    private static void of() {
        StandUpBook x = Due.told("book 20;piece 0 1 1 0;on 5 4 3 2 0;pull 1 3;open 7;");
        long[] got = new long[8];
        for (int what = 0; what < 8; what++) {
            got[what] = x.of(1, what);
        }
        due.all("of(1, ..)", got, 5, 4, 3, 2, 0, 3, 7, 0);
        due.is("of(0, 4)", x.of(0, 4), NONE);
        due.is("of(0, 8)", x.of(0, 8), -2);
        due.is("of(0, -1)", x.of(0, -1), -2);
        due.is("of(2, 0)", x.of(2, 0), -2);
        due.is("of(-1, 0)", x.of(-1, 0), -2);
        due.status(x, 4, 0, 0);
    }
}
