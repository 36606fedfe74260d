import java.math.BigInteger;

/** Promises 28 to 30, a case each: seats, sticks, readers. */
public final class EdgesOfChanceTest {
    private static final int NONE = StandUpBook.NONE;

    public static void main(String[] args) {
        Cases.run(EdgesOfChanceTest.class);
    }

    // ---- 28: seats

    private static void pairs(Due due, StandUpBook x, int... want) {
        due.answers(x, "seats(-1)", () -> x.seats(NONE), want.length);
        long[] got = new long[want.length];
        long[] all = new long[want.length];
        for (int k = 0; k < want.length; k++) {
            got[k] = x.seats(k);
            all[k] = want[k];
        }
        due.all("seats", got, all);
        due.answers(x, "seats behind the last", () -> x.seats(want.length), -5);
    }

    static void p28_ofNoPiecesBothStayBelow4(Due due) {
        pairs(due, new StandUpBook(), 0, 1, 2, 3, 13, 14, 15, 16, 26, 27, 28, 29, 39, 40, 41, 42);
    }

    static void p28_notSoManyIsMinus5AndNotRefused(Due due) {
        StandUpBook x = new StandUpBook();
        due.answers(x, "seats(16)", () -> x.seats(16), -5);
        due.answers(x, "seats(168)", () -> x.seats(168), -5);
        due.answers(x, "seats(169)", () -> x.seats(169), -5);
        due.answers(x, "seats(greatest)", () -> x.seats(Integer.MAX_VALUE), -5);
    }

    static void p28_kBelowNoneIsBadByMinus10(Due due) {
        StandUpBook x = new StandUpBook();
        due.badBy(-10, x, "seats(-2)", () -> x.seats(-2));
        due.badBy(-10, x, "seats(least)", () -> x.seats(Integer.MIN_VALUE));
    }

    static void p28_less1ForEach4Cut(Due due) {
        // A VEE 9 TALL: to the second one 9 - 3 at 12 and 8 - 2 at 11, less elsewhere; to the first one 1 for 0 .. 3.
        pairs(due, Due.told("book 20;piece 0 1 9 0;"), 11, 12, 24, 25, 37, 38, 50, 51);
    }

    static void p28_oneThatIsHighestAt6(Due due) {
        // A BOX 9 TALL: the second one gets 9 - 1 at 6, 7 - 1 at 5 and 7, less elsewhere; the first one 1 for 0 .. 3.
        pairs(due, Due.told("book 20;piece 2 1 9 0;"), 6, 19, 32, 45);
    }

    static void p28_theGreaterOneOfBothTells(Due due) {
        // Seven, 1 TALL, are SEEN at 12 alone: 7 - 3 to the first one; the second one has its 1 for 0 .. 3 then.
        StandUpBook x = new StandUpBook();
        for (int i = 0; i < 7; i++) {
            x.piece(0, 1, 1, 0, NONE);
        }
        pairs(due, x, 156, 157, 158, 159);
    }

    static void p28_whereItCostsMoreThanItGivesNeitherGoes(Due due) {
        // 1 TALL: at 12 both would get 1 - 3.
        pairs(due, Due.told("book 20;piece 0 1 1 0;"), 0, 1, 2, 3, 13, 14, 15, 16, 26, 27, 28, 29, 39, 40, 41, 42);
    }

    static void p28_whereItCostsAsMuchAsItGivesBothRest(Due due) {
        // A TENT 1 TALL is SEEN and 1 high from 6 on, 2 at 12: 1 - 1 at 6 and 7 is no more and no less than 0.
        pairs(due, Due.told("book 20;piece 1 1 1 0;"), 0, 1, 2, 3, 6, 7, 13, 14, 15, 16, 19, 20, 26, 27, 28, 29, 32, 33,
                39, 40, 41, 42, 45, 46, 78, 79, 80, 81, 91, 92, 93, 94);
    }

    static void p28_howItIsOpenNowDoesNotMatter(Due due) {
        pairs(due, Due.told("book 20;piece 2 1 9 0;open 12;"), 6, 19, 32, 45);
    }

    static void p28_ofAStuckOneNoneIsSeenOrHigh(Due due) {
        StandUpBook x = Due.told("book 20;piece 5 1 9 0;");
        Due.openToAndFro(x, 7);
        pairs(due, x, 0, 1, 2, 3, 13, 14, 15, 16, 26, 27, 28, 29, 39, 40, 41, 42);
    }

    // ---- 29: sticks

    private static void fraction(Due due, StandUpBook x, int o, int c, long above, long below) {
        due.is("sticks(" + o + ", " + c + ")", x.sticks(o, c), 1);
        due.is("part(0) of " + o + ", " + c, x.part(0), above);
        due.is("part(1) of " + o + ", " + c, x.part(1), below);
    }

    private static StandUpBook seven(int rowStep) {
        StandUpBook x = new StandUpBook();
        for (int i = 0; i < 7; i++) {
            x.piece(0, 1, 9, i * rowStep, NONE);
        }
        return x;
    }

    static void p29_ofNoPiecesIs0By1(Due due) {
        fraction(due, new StandUpBook(), 12, 5, 0, 1);
    }

    static void p29_byNoneOf10AllStandAsTheyAre(Due due) {
        fraction(due, Due.told("book 20;piece 0 1 9 0;piece 0 1 3 0;"), 12, 0, 2, 1);
    }

    static void p29_by10Of10AllLie(Due due) {
        fraction(due, Due.told("book 20;piece 0 1 9 0;piece 0 1 3 0;"), 12, 10, 0, 1);
    }

    static void p29_inLowestTerms(Due due) {
        StandUpBook x = Due.told("book 20;piece 0 1 9 0;");
        fraction(due, x, 12, 1, 9, 10);
        fraction(due, x, 12, 2, 4, 5);
        fraction(due, x, 12, 5, 1, 2);
        fraction(due, x, 12, 9, 1, 10);
    }

    static void p29_noneSeenIs0By1AlsoBehindAnotherFraction(Due due) {
        StandUpBook x = Due.told("book 20;piece 0 1 9 0;");
        fraction(due, x, 12, 3, 7, 10);
        fraction(due, x, 1, 3, 0, 1);
        fraction(due, x, 0, 0, 0, 1);
    }

    static void p29_sevenSideBySide(Due due) {
        fraction(due, seven(0), 12, 3, 49, 10);
        fraction(due, seven(0), 12, 9, 7, 10);
        fraction(due, seven(0), 12, 0, 7, 1);
    }

    static void p29_sevenBehindOneAnother(Due due) {
        // Just the first one that stands is SEEN: 1 less 3/10, and that seven times.
        fraction(due, seven(1), 12, 3, 10000000 - 2187, 10000000);
        fraction(due, seven(1), 12, 5, 127, 128);
    }

    static void p29_stuckOnesLieForSure(Due due) {
        StandUpBook x = Due.told("book 20;piece 5 1 9 0;");
        Due.openToAndFro(x, 7);
        fraction(due, x, 12, 0, 0, 1);
        x.piece(0, 1, 9, 1, NONE);
        fraction(due, x, 12, 3, 7, 10);
    }

    static void p29_aStuckOneOnOneThatStandsIsSeen(Due due) {
        StandUpBook x = Due.told("book 20;piece 0 1 9 0;on 5 1 9 0 0;");
        Due.openToAndFro(x, 7);
        fraction(due, x, 12, 3, 7, 5);
    }

    static void p29_thoseOnOneThatLiesMayStand(Due due) {
        // Both stand: 2; the lower one lies: 1; the upper one lies, as high as the lower one in the same ROW: 2.
        StandUpBook x = Due.told("book 20;piece 0 1 9 0;on 0 1 9 0 0;");
        fraction(due, x, 12, 5, 5, 4);
    }

    static void p29_anOpeningBelow0OrAbove12IsBad(Due due) {
        StandUpBook x = Due.told("book 20;piece 0 1 9 0;");
        x.sticks(12, 3);
        due.badOutside(x, "sticks(.., 3)", 0, 12, v -> x.sticks(v, 3));
    }

    static void p29_oddsBelow0OrAbove10AreBad(Due due) {
        StandUpBook x = Due.told("book 20;piece 0 1 9 0;");
        x.sticks(12, 3);
        due.badOutside(x, "sticks(12, ..)", 0, 10, v -> x.sticks(12, v));
    }

    static void p29_nothingButTheFractionIsChanged(Due due) {
        StandUpBook x = Due.told("book 20;piece 0 1 9 0;open 3;");
        x.sticks(12, 4);
        due.answers(x, "sticks(12, 4)", () -> x.sticks(12, 4), 1);
        due.is("WEAR", x.of(0, 6), 3);
        due.is("OPEN", x.count(1), 3);
    }

    // ---- 30: readers

    /** To where it is opened, one behind the other; with numbers that can not run over. */
    private static int[] openings(int seed, int n) {
        int[] result = new int[n];
        BigInteger x = BigInteger.valueOf(seed);
        for (int time = 0; time < n; time++) {
            x = x.multiply(BigInteger.valueOf(1103515245)).add(BigInteger.valueOf(12345))
                    .mod(BigInteger.valueOf(2147483648L));
            result[time] = x.divide(BigInteger.valueOf(65536)).mod(BigInteger.valueOf(13)).intValue();
        }
        return result;
    }

    /** How often a WHEEL, 9 TALL, is SEEN (from 4 on), from an opening and a WEAR on. */
    private static int wheelSeen(int seed, int n, int open, int wear) {
        int seen = 0;
        int at = open;
        int worn = wear;
        for (int o : openings(seed, n)) {
            worn += worn >= 75 ? 0 : Math.abs(o - at);
            at = o;
            seen += o >= 4 && worn < 75 ? 1 : 0;
        }
        return seen;
    }

    static void p30_ofNoPiecesIs0(Due due) {
        StandUpBook x = new StandUpBook();
        due.answers(x, "readers(999999, 60)", () -> x.readers(999999, 60), 0);
    }

    static void p30_noReadersSeeNone(Due due) {
        StandUpBook x = Due.told("book 20;piece 5 1 9 0;open 12;");
        due.answers(x, "readers(0, 0)", () -> x.readers(0, 0), 0);
        due.answers(x, "readers(999999, 0)", () -> x.readers(999999, 0), 0);
    }

    static void p30_theFirstOpeningBySeed0And1(Due due) {
        // 12345 by 65536 is 0; 1103527590 by 65536 is 16838, by 13 left over 3.
        StandUpBook x = Due.told("book 20;piece 0 1 9 0;");
        due.is("readers(0, 1)", x.readers(0, 1), 0);
        due.is("readers(1, 1)", x.readers(1, 1), 1);
    }

    static void p30_seed999999And60Readers(Due due) {
        // STAGEs bear them all: each of 9 TALL is SEEN from 1 to 11.
        StandUpBook x = Due.told("book 20;piece 4 1 9 0;piece 4 1 9 0;");
        int want = 0;
        for (int o : openings(999999, 60)) {
            want += o >= 1 && o <= 11 ? 2 : 0;
        }
        int due60 = want;
        due.answers(x, "readers(999999, 60)", () -> x.readers(999999, 60), due60);
    }

    static void p30_withWearInIt(Due due) {
        StandUpBook x = Due.told("book 20;piece 5 1 9 0;");
        for (int n : new int[] {1, 5, 10, 15, 20, 25, 30, 60}) {
            int want = wheelSeen(7, n, 0, 0);
            due.answers(x, "readers(7, " + n + ")", () -> x.readers(7, n), want);
        }
    }

    static void p30_fromTheOpeningAndTheWearOfNow(Due due) {
        StandUpBook x = Due.told("book 20;piece 5 1 9 0;open 12;open 0;open 12;");
        for (int seed : new int[] {0, 1, 5, 77, 4711, 999999}) {
            int want = wheelSeen(seed, 60, 12, 36);
            due.answers(x, "readers(" + seed + ", 60)", () -> x.readers(seed, 60), want);
        }
    }

    static void p30_theBookIsAsItWasBehindIt(Due due) {
        StandUpBook x = Due.told("book 20;piece 5 1 9 0;open 5;");
        x.opens(6);
        x.readers(3, 60);
        due.is("OPEN", x.count(1), 6);
        due.is("WEAR", x.of(0, 6), 6);
        due.is("count(8)", x.count(8), 1);
        due.is("undo()", x.undo(), 5);
    }

    static void p30_aSeedBelow0OrAbove999999IsBad(Due due) {
        StandUpBook x = Due.told("book 20;piece 5 1 9 0;");
        due.badOutside(x, "readers(.., 1)", 0, 999999, v -> x.readers(v, 1));
    }

    static void p30_readersBelow0OrAbove60AreBad(Due due) {
        StandUpBook x = Due.told("book 20;piece 5 1 9 0;");
        due.badOutside(x, "readers(1, ..)", 0, 60, v -> x.readers(1, v));
    }
}
