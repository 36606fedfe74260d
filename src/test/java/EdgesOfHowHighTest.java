/** Promises 12 to 17, a case each: gives, height, seen, first, best, out, with KINDS, HEIGHT, SEEN, OUT of "Terms". */
public final class EdgesOfHowHighTest {
    private static final int NONE = StandUpBook.NONE;

    public static void main(String[] args) {
        Cases.run(EdgesOfHowHighTest.class);
    }

    private static StandUpBook one(int kind, int arm, int tall) {
        StandUpBook x = new StandUpBook();
        x.piece(kind, arm, tall, 0, NONE);
        return x;
    }

    private static void rises(Due due, int kind, int tall, int o, int want) {
        due.is("KIND " + kind + ", " + tall + " TALL, at " + o, one(kind, 1, tall).gives(0, o, 0), want);
    }

    private static void pulledRises(Due due, int kind, int tall, int o, int want) {
        StandUpBook x = one(kind, 1, tall);
        x.pulls(0, 3);
        due.is("KIND " + kind + ", " + tall + " TALL, pulled by 3, at " + o, x.gives(0, o, 0), want);
    }

    // ---- 12: gives

    static void p12_veeIsTimesOBy12Cut(Due due) {
        rises(due, 0, 1, 11, 0);
        rises(due, 0, 1, 12, 1);
        rises(due, 0, 9, 1, 0);
        rises(due, 0, 9, 2, 1);
        rises(due, 0, 9, 11, 8);
        rises(due, 0, 9, 12, 9);
        rises(due, 0, 9, 0, 0);
    }

    static void p12_tentIs1MoreFrom6On(Due due) {
        rises(due, 1, 9, 0, 0);
        rises(due, 1, 9, 5, 3);
        rises(due, 1, 9, 6, 5);
        rises(due, 1, 9, 12, 10);
        rises(due, 1, 1, 5, 0);
        rises(due, 1, 1, 6, 1);
        rises(due, 1, 1, 12, 2);
    }

    static void p12_boxIsHighestAt6(Due due) {
        rises(due, 2, 9, 0, 0);
        rises(due, 2, 9, 1, 1);
        rises(due, 2, 9, 5, 7);
        rises(due, 2, 9, 6, 9);
        rises(due, 2, 9, 7, 7);
        rises(due, 2, 9, 11, 1);
        rises(due, 2, 9, 12, 0);
        rises(due, 2, 1, 5, 0);
        rises(due, 2, 1, 6, 1);
        rises(due, 2, 1, 7, 0);
    }

    static void p12_flapIs0Below4(Due due) {
        rises(due, 3, 9, 3, 0);
        rises(due, 3, 9, 4, 3);
        rises(due, 3, 9, 12, 9);
        rises(due, 3, 2, 4, 0);
    }

    static void p12_stageIsHalfOfBoxCutUp(Due due) {
        rises(due, 4, 9, 0, 0);
        rises(due, 4, 9, 1, 1);
        rises(due, 4, 9, 6, 5);
        rises(due, 4, 9, 12, 0);
        rises(due, 4, 8, 6, 4);
        rises(due, 4, 1, 5, 0);
        rises(due, 4, 1, 6, 1);
        rises(due, 4, 2, 6, 1);
        rises(due, 4, 3, 6, 2);
    }

    static void p12_wheelIsFlapAndItsTabFromFlap1On(Due due) {
        pulledRises(due, 5, 9, 0, 0);
        pulledRises(due, 5, 9, 3, 0);
        pulledRises(due, 5, 9, 4, 6);
        pulledRises(due, 5, 2, 4, 0);
        pulledRises(due, 5, 3, 4, 4);
        pulledRises(due, 5, 1, 11, 0);
        pulledRises(due, 5, 1, 12, 4);
        pulledRises(due, 5, 9, 12, 12);
        rises(due, 5, 9, 12, 9);
        rises(due, 5, 9, 4, 3);
    }

    static void p12_aTabRaisesNoOtherKind(Due due) {
        pulledRises(due, 0, 9, 12, 9);
        pulledRises(due, 1, 9, 12, 10);
        pulledRises(due, 2, 9, 6, 9);
        pulledRises(due, 3, 9, 12, 9);
        pulledRises(due, 4, 9, 6, 5);
    }

    static void p12_reachesOfTheLeastAndTheGreatest(Due due) {
        int[] least = {2, 2, 4, 1, 4, 4};
        int[] greatest = {18, 18, 36, 9, 36, 12};
        for (int kind = 0; kind < 6; kind++) {
            due.is("REACHES of KIND " + kind + ", 1, 1", one(kind, 1, 1).gives(0, 0, 1), least[kind]);
            due.is("REACHES of KIND " + kind + ", 9, 9", one(kind, 9, 9).gives(0, 12, 1), greatest[kind]);
        }
    }

    static void p12_armAndTallDifferInReaches(Due due) {
        int[] wideOnes = {10, 10, 28, 1, 28, 4};
        int[] tallOnes = {10, 10, 12, 9, 12, 12};
        for (int kind = 0; kind < 6; kind++) {
            due.is("REACHES of KIND " + kind + ", 9, 1", one(kind, 9, 1).gives(0, 6, 1), wideOnes[kind]);
            due.is("REACHES of KIND " + kind + ", 1, 9", one(kind, 1, 9).gives(0, 6, 1), tallOnes[kind]);
        }
    }

    static void p12_bears(Due due) {
        int[] bears = {150, 150, 200, 150, 400, 75};
        for (int kind = 0; kind < 6; kind++) {
            due.is("bears of KIND " + kind, one(kind, 1, 1).gives(0, 0, 2), bears[kind]);
            due.is("bears of KIND " + kind, one(kind, 9, 9).gives(0, 12, 2), bears[kind]);
        }
    }

    static void p12_ofOneOnAnotherIsItsOwn(Due due) {
        StandUpBook x = Due.told("book 20;piece 0 1 9 0;on 0 2 6 0 0;");
        due.is("RISES", x.gives(1, 12, 0), 6);
        due.is("REACHES", x.gives(1, 12, 1), 8);
    }

    static void p12_risesStuckOrNot(Due due) {
        StandUpBook x = one(5, 1, 9);
        Due.openToAndFro(x, 7);
        due.is("STUCK", x.of(0, 7), 1);
        due.is("gives(0, 12, 0)", x.gives(0, 12, 0), 9);
        due.is("gives(0, 12, 1)", x.gives(0, 12, 1), 12);
        due.is("gives(0, 12, 2)", x.gives(0, 12, 2), 75);
    }

    static void p12_aPieceThatIsNotThereIsBad(Due due) {
        StandUpBook x = Due.told("book 20;piece 0 1 1 0;piece 0 1 1 0;");
        due.badOutside(x, "gives(.., 0, 0)", 0, 1, v -> x.gives(v, 0, 0));
    }

    static void p12_ofAnEmptyBookIsBad(Due due) {
        StandUpBook x = new StandUpBook();
        due.bad(x, "gives(0, 0, 0)", () -> x.gives(0, 0, 0));
    }

    static void p12_anOpeningBelow0OrAbove12IsBad(Due due) {
        StandUpBook x = one(0, 1, 1);
        for (int what = 0; what < 3; what++) {
            int now = what;
            due.badOutside(x, "gives(0, .., " + what + ")", 0, 12, v -> x.gives(0, v, now));
        }
    }

    static void p12_whatBelow0OrAbove2IsBad(Due due) {
        StandUpBook x = one(0, 1, 1);
        due.badOutside(x, "gives(0, 0, ..)", 0, 2, v -> x.gives(0, 0, v));
    }

    // ---- 13: height

    static void p13_onThePageIsWhatItRises(Due due) {
        StandUpBook x = one(0, 1, 9);
        due.is("height(0, 0)", x.height(0, 0), 0);
        due.is("height(0, 12)", x.height(0, 12), 9);
    }

    static void p13_onAnotherOneIsThatOnesHeightMore(Due due) {
        StandUpBook x = Due.told("book 20;piece 0 1 9 0;piece 0 1 1 0;on 2 1 9 0 0;on 3 1 9 0 2;");
        due.is("height(2, 6): 4 and 9", x.height(2, 6), 13);
        due.is("height(3, 6): 4 and 9 and 4", x.height(3, 6), 17);
        due.is("height(3, 3): 2 and 4 and 0", x.height(3, 3), 6);
        due.is("height(2, 12): 9 and 0", x.height(2, 12), 9);
    }

    static void p13_sevenOnOneAnother(Due due) {
        StandUpBook x = new StandUpBook();
        for (int i = 0; i < 7; i++) {
            x.piece(1, 1, 9, 0, i - 1);
        }
        for (int i = 0; i < 7; i++) {
            due.is("height(" + i + ", 12)", x.height(i, 12), 10 * (i + 1));
        }
    }

    static void p13_aStuckOneIs0AndThoseOnItAsTold(Due due) {
        StandUpBook x = Due.told("book 20;piece 5 1 9 0;on 0 1 6 1 0;");
        Due.openToAndFro(x, 7);
        due.is("height(0, 12)", x.height(0, 12), 0);
        due.is("height(1, 12)", x.height(1, 12), 6);
    }

    static void p13_aStuckOneOnAnotherIsAsHighAsThatOne(Due due) {
        StandUpBook x = Due.told("book 20;piece 0 1 6 0;on 5 1 9 1 0;on 0 1 3 1 1;");
        Due.openToAndFro(x, 7);
        due.is("STUCK", x.of(1, 7), 1);
        due.is("height(1, 12)", x.height(1, 12), 6);
        due.is("height(2, 12)", x.height(2, 12), 9);
    }

    static void p13_doesNotAskHowItIsOpenNow(Due due) {
        StandUpBook x = Due.told("book 20;piece 0 1 9 0;open 3;");
        due.answers(x, "height(0, 12)", () -> x.height(0, 12), 9);
    }

    static void p13_aPieceThatIsNotThereIsBad(Due due) {
        StandUpBook x = Due.told("book 20;piece 0 1 1 0;piece 0 1 1 0;");
        due.badOutside(x, "height(.., 0)", 0, 1, v -> x.height(v, 0));
    }

    static void p13_ofAnEmptyBookIsBad(Due due) {
        StandUpBook x = new StandUpBook();
        due.bad(x, "height(0, 0)", () -> x.height(0, 0));
    }

    static void p13_anOpeningBelow0OrAbove12IsBad(Due due) {
        StandUpBook x = one(0, 1, 1);
        due.badOutside(x, "height(0, ..)", 0, 12, v -> x.height(0, v));
    }

    // ---- 14: seen

    static void p14_ofNoPiecesIsNone(Due due) {
        StandUpBook x = new StandUpBook();
        due.answers(x, "seen(0)", () -> x.seen(0), 0);
        due.answers(x, "seen(12)", () -> x.seen(12), 0);
    }

    static void p14_anOpeningBelow0OrAbove12IsBad(Due due) {
        StandUpBook x = one(0, 1, 1);
        due.badOutside(x, "seen", 0, 12, x::seen);
    }

    static void p14_height0IsNotSeenAndHeight1Is(Due due) {
        StandUpBook x = one(0, 1, 1);
        due.is("seen(11)", x.seen(11), 0);
        due.is("seen(12)", x.seen(12), 1);
    }

    static void p14_oneOfALesserRowAsHighHides(Due due) {
        StandUpBook x = Due.told("book 20;piece 0 1 6 1;piece 0 1 6 0;");
        due.is("seen(12)", x.seen(12), 2);
    }

    static void p14_oneOfALesserRowHigherHides(Due due) {
        StandUpBook x = Due.told("book 20;piece 0 1 6 9;piece 0 1 7 8;");
        due.is("seen(12)", x.seen(12), 2);
    }

    static void p14_oneOfALesserRow1LowerDoesNotHide(Due due) {
        StandUpBook x = Due.told("book 20;piece 0 1 6 9;piece 0 1 5 0;");
        due.is("seen(12)", x.seen(12), 3);
    }

    static void p14_oneOfTheSameRowDoesNotHide(Due due) {
        StandUpBook x = Due.told("book 20;piece 0 1 6 4;piece 0 1 6 4;piece 0 1 9 4;piece 0 1 1 4;");
        due.is("seen(12)", x.seen(12), 15);
    }

    static void p14_oneOfAGreaterRowDoesNotHide(Due due) {
        StandUpBook x = Due.told("book 20;piece 0 1 1 0;piece 0 1 9 1;");
        due.is("seen(12)", x.seen(12), 3);
    }

    static void p14_whatItIsOnHidesItOnlyIfAsHigh(Due due) {
        StandUpBook x = Due.told("book 20;piece 0 1 6 0;on 3 1 9 1 0;");
        due.is("seen(3): 1 and 1", x.seen(3), 1);
        due.is("seen(4): 2 and 5", x.seen(4), 3);
    }

    static void p14_whatIsOnItHidesItIfAhead(Due due) {
        StandUpBook x = Due.told("book 20;piece 0 1 6 1;on 3 1 9 0 0;");
        due.is("seen(3): 1 and 1", x.seen(3), 2);
        due.is("seen(0)", x.seen(0), 0);
    }

    static void p14_aStuckOneDoesNotHide(Due due) {
        StandUpBook x = Due.told("book 20;piece 5 1 9 0;piece 0 1 1 1;");
        due.is("seen(12)", x.seen(12), 1);
        Due.openToAndFro(x, 7);
        due.is("seen(12)", x.seen(12), 2);
    }

    static void p14_aStuckOneOnAHighOneIsSeen(Due due) {
        StandUpBook x = Due.told("book 20;piece 0 1 6 0;on 5 1 9 0 0;");
        Due.openToAndFro(x, 7);
        due.is("STUCK", x.of(1, 7), 1);
        due.is("seen(12)", x.seen(12), 3);
    }

    static void p14_theSeventhIsBit6(Due due) {
        StandUpBook x = Due.told("book 9;piece 0 1 1 1;piece 0 1 1 1;piece 0 1 1 1;piece 0 1 1 1;piece 0 1 1 1;"
                + "piece 0 1 1 1;piece 0 1 1 0;");
        due.is("seen(12)", x.seen(12), 64);
    }

    // ---- 15: first

    static void p15_atTheLeastOpening(Due due) {
        due.is("BOX, 6 TALL", one(2, 1, 6).first(0), 1);
        due.is("BOX, 5 TALL", one(2, 1, 5).first(0), 2);
        due.is("FLAP, 9 TALL", one(3, 1, 9).first(0), 4);
        due.is("TENT, 1 TALL", one(1, 1, 1).first(0), 6);
        due.is("VEE, 1 TALL", one(0, 1, 1).first(0), 12);
    }

    static void p15_hiddenAtTheFirstOnesItIsTheNext(Due due) {
        // The BOX is 1 at 6 alone; the VEE behind it is 1 from 6 on.
        StandUpBook x = Due.told("book 20;piece 2 1 1 0;piece 0 1 2 1;");
        due.is("first(1)", x.first(1), 7);
    }

    static void p15_hiddenEverywhereIsNone(Due due) {
        StandUpBook x = Due.told("book 20;piece 0 1 9 0;piece 0 1 9 1;");
        due.answers(x, "first(1)", () -> x.first(1), NONE);
    }

    static void p15_stuckIsNone(Due due) {
        StandUpBook x = one(5, 1, 9);
        due.is("first(0)", x.first(0), 4);
        Due.openToAndFro(x, 7);
        due.answers(x, "first(0)", () -> x.first(0), NONE);
    }

    static void p15_doesNotAskHowItIsOpenNow(Due due) {
        StandUpBook x = Due.told("book 20;piece 0 1 9 0;open 12;");
        due.answers(x, "first(0)", () -> x.first(0), 2);
    }

    static void p15_aPieceThatIsNotThereIsBad(Due due) {
        StandUpBook x = Due.told("book 20;piece 0 1 1 0;piece 0 1 1 0;");
        due.badOutside(x, "first", 0, 1, x::first);
    }

    static void p15_ofAnEmptyBookIsBad(Due due) {
        StandUpBook x = new StandUpBook();
        due.bad(x, "first(0)", () -> x.first(0));
    }

    // ---- 16: best

    static void p16_ofNoPiecesIsOpening0And0(Due due) {
        StandUpBook x = new StandUpBook();
        due.answers(x, "best(0)", () -> x.best(0), 0);
        due.answers(x, "best(1)", () -> x.best(1), 0);
    }

    static void p16_ofNoneEverSeenIsOpening0And0(Due due) {
        StandUpBook x = one(5, 1, 9);
        Due.openToAndFro(x, 7);
        due.is("best(0)", x.best(0), 0);
        due.is("best(1)", x.best(1), 0);
    }

    static void p16_mayBe12(Due due) {
        StandUpBook x = Due.told("book 20;piece 0 1 9 0;piece 0 1 1 0;");
        due.is("best(0)", x.best(0), 12);
        due.is("best(1)", x.best(1), 2);
    }

    static void p16_ofLikeOnesTheLeast(Due due) {
        StandUpBook x = Due.told("book 20;piece 3 1 9 0;piece 3 1 9 0;open 12;");
        due.is("best(0), of 4 .. 12", x.best(0), 4);
        due.is("best(1)", x.best(1), 2);
    }

    static void p16_all7(Due due) {
        StandUpBook x = Due.told("book 9;piece 0 1 1 1;piece 0 1 1 1;piece 0 1 1 1;piece 0 1 1 1;piece 0 1 1 1;"
                + "piece 0 1 1 1;piece 0 1 1 1;");
        due.is("best(0)", x.best(0), 12);
        due.is("best(1)", x.best(1), 7);
    }

    static void p16_whatBelow0OrAbove1IsBad(Due due) {
        StandUpBook x = one(0, 1, 1);
        due.badOutside(x, "best", 0, 1, x::best);
    }

    // ---- 17: out

    static void p17_ofNoPiecesIsNoneAndTheLeastPage6(Due due) {
        StandUpBook x = new StandUpBook();
        due.answers(x, "out(0)", () -> x.out(0), 0);
        due.answers(x, "out(1)", () -> x.out(1), 6);
    }

    static void p17_asFarAsThePageIsWideIsNotOut(Due due) {
        StandUpBook x = Due.told("book 18;piece 0 9 9 0;");
        due.is("out(0)", x.out(0), 0);
        due.is("out(1)", x.out(1), 18);
    }

    static void p17_oneFartherIsOut(Due due) {
        StandUpBook x = Due.told("book 17;piece 0 9 9 0;");
        due.is("out(0)", x.out(0), 1);
        due.is("out(1)", x.out(1), 18);
    }

    static void p17_allThatItIsOnReachTogether(Due due) {
        // 10, 20, 30, 10 and, ON the second one, 25.
        StandUpBook x = Due.told("book 24;piece 0 1 9 0;on 0 1 9 0 0;on 0 1 9 0 1;piece 0 1 9 0;on 0 1 4 0 1;");
        due.is("out(0)", x.out(0), 4 + 16);
        due.is("out(1)", x.out(1), 30);
    }

    static void p17_theLeastPageIs6ForSmallerOnes(Due due) {
        due.is("5", Due.told("book 20;piece 0 1 4 0;").out(1), 6);
        due.is("6", Due.told("book 20;piece 0 1 5 0;").out(1), 6);
        due.is("7", Due.told("book 20;piece 0 1 6 0;").out(1), 7);
    }

    static void p17_theLeastPageMayBe40(Due due) {
        StandUpBook x = Due.told("book 6;piece 2 9 9 0;on 3 1 4 0 0;");
        due.is("out(1)", x.out(1), 40);
        due.is("out(0)", x.out(0), 3);
        due.is("on a page of 40", Due.told("book 40;piece 2 9 9 0;on 3 1 4 0 0;").out(0), 0);
    }

    static void p17_theLeastPageIsNoneFor41(Due due) {
        StandUpBook x = Due.told("book 40;piece 2 9 9 0;on 3 1 5 0 0;");
        due.is("out(1)", x.out(1), NONE);
        due.is("out(0)", x.out(0), 2);
    }

    static void p17_allSevenMayBeOut(Due due) {
        StandUpBook x = new StandUpBook();
        x.book(6);
        for (int i = 0; i < 7; i++) {
            x.piece(2, 9, 9, 0, i - 1);
        }
        due.is("out(0)", x.out(0), 127);
        due.is("out(1)", x.out(1), NONE);
    }

    static void p17_sevenOnOneAnotherReachTogether(Due due) {
        // FLAPs 1 TALL reach 1 each: the seventh alone is out of a page of 6.
        StandUpBook x = new StandUpBook();
        x.book(6);
        for (int i = 0; i < 7; i++) {
            x.piece(3, 9, 1, 0, i - 1);
        }
        due.is("out(0)", x.out(0), 64);
        due.is("out(1)", x.out(1), 7);
    }

    static void p17_stuckOnesReachAsTold(Due due) {
        StandUpBook x = Due.told("book 11;piece 5 9 9 0;");
        Due.openToAndFro(x, 7);
        due.is("out(0)", x.out(0), 1);
        due.is("out(1)", x.out(1), 12);
    }

    static void p17_whatBelow0OrAbove1IsBad(Due due) {
        StandUpBook x = one(0, 1, 1);
        due.badOutside(x, "out", 0, 1, x::out);
    }
}
