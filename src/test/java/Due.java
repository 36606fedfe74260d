import java.util.Arrays;
import java.util.function.IntToLongFunction;
import java.util.function.LongSupplier;

/** What the tests share: a comparison of an answer with the one that is due, and texts typed by whole lines. */
final class Due {
    private static final int BAD = 0, NO = 1, FULL = 2;

    private final String test;
    private int wrong = 0;

    Due(String test) {
        this.test = test;
    }

    void is(String call, long got, long want) {
        if (got != want) {
            wrong++;
            System.out.println(test + ": " + call + " answered " + got + ", due is " + want);
        }
    }

    void all(String call, long[] got, long... want) {
        if (!Arrays.equals(got, want)) {
            wrong++;
            System.out.println(test + ": " + call + " answered " + Arrays.toString(got) + ", due is "
                    + Arrays.toString(want));
        }
    }

    /** BAD, NO and FULL, as many as there were. */
    void status(StandUpBook book, int bad, int no, int full) {
        is("status(0)", book.status(0), bad);
        is("status(1)", book.status(1), no);
        is("status(2)", book.status(2), full);
    }

    /** Each of these calls was refused as it should be, and nothing but STATUS has changed. */
    void unchanged(String what, StandUpBook book, long digestBefore) {
        is("digest() behind " + what, book.digest(), digestBefore);
    }

    void bad(StandUpBook book, String call, LongSupplier answer) {
        refused(book, call, answer, -2, BAD);
    }

    /** BAD where the document tells another number for it. */
    void badBy(int number, StandUpBook book, String call, LongSupplier answer) {
        refused(book, call, answer, number, BAD);
    }

    void no(StandUpBook book, String call, LongSupplier answer) {
        refused(book, call, answer, -3, NO);
    }

    void full(StandUpBook book, String call, LongSupplier answer) {
        refused(book, call, answer, -4, FULL);
    }

    /** A number of low .. high, just outside of it and as far outside as can be, is BAD. */
    void badOutside(StandUpBook book, String call, int low, int high, IntToLongFunction answer) {
        for (int value : new int[] {Integer.MIN_VALUE, low - 1, high + 1, Integer.MAX_VALUE}) {
            bad(book, call + " with " + value, () -> answer.applyAsLong(value));
        }
    }

    /** The call answers so, counts once in STATUS, and there as it should, and changes nothing else. */
    private void refused(StandUpBook book, String call, LongSupplier answer, long want, int reason) {
        long digest = book.digest();
        int[] before = {book.status(0), book.status(1), book.status(2)};
        is(call, answer.getAsLong(), want);
        for (int what = 0; what < before.length; what++) {
            is("status(" + what + ") behind " + call, book.status(what), before[what] + (what == reason ? 1 : 0));
        }
        unchanged(call, book, digest);
    }

    /** The call is no refused one, whatever it answers: nothing is changed, STATUS neither. */
    void answers(StandUpBook book, String call, LongSupplier answer, long want) {
        long digest = book.digest();
        int[] before = {book.status(0), book.status(1), book.status(2)};
        is(call, answer.getAsLong(), want);
        status(book, before[BAD], before[NO], before[FULL]);
        unchanged(call, book, digest);
    }

    boolean failed() {
        return wrong != 0;
    }

    void end() {
        if (wrong != 0) {
            System.out.println(test + ": " + wrong + " answers are not as due");
            System.exit(1);
        }
    }

    static void typeAll(StandUpBook book, String text) {
        for (int i = 0; i < text.length(); i++) {
            book.type(text.charAt(i));
        }
    }

    /** Clears THE TEXT, types this one and reads it. */
    static int readText(StandUpBook book, String text) {
        book.clear();
        typeAll(book, text);
        return book.read();
    }

    static StandUpBook told(String text) {
        StandUpBook book = new StandUpBook();
        int items = readText(book, text);
        if (items < 0) {
            System.out.println("a test's own text is wrong: " + text + " answered " + items);
            System.exit(1);
        }
        return book;
    }

    /** Opened and shut by 12 again and again, from 0 or from 12, so many times. */
    static void openToAndFro(StandUpBook book, int times) {
        for (int time = 0; time < times; time++) {
            book.opens(book.count(1) == 12 ? 0 : 12);
        }
    }

    /** What of(i, 0) to of(i, 7) answer. */
    static long[] ofAll(StandUpBook book, int i) {
        long[] got = new long[8];
        for (int what = 0; what < got.length; what++) {
            got[what] = book.of(i, what);
        }
        return got;
    }
}
