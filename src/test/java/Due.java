import java.util.Arrays;

/** What the tests share: a comparison of an answer with the one that is due, and texts typed by whole lines. */
final class Due {
    private final String test;
    private int wrong = 0;

    Due(String test) {
        this.test = test;
    }

    void is(String call, long got, long want) {
        if (got != want) {
            wrong++;
            System.out.println(test + ": " + call + " answered " + got + ", due is " + want);
        }
    }

    void all(String call, long[] got, long... want) {
        if (!Arrays.equals(got, want)) {
            wrong++;
            System.out.println(test + ": " + call + " answered " + Arrays.toString(got) + ", due is "
                    + Arrays.toString(want));
        }
    }

    /** BAD, NO and FULL, as many as there were. */
    void status(StandUpBook book, int bad, int no, int full) {
        is("status(0)", book.status(0), bad);
        is("status(1)", book.status(1), no);
        is("status(2)", book.status(2), full);
    }

    /** Each of these calls was refused as it should be, and nothing but STATUS has changed. */
    void unchanged(String what, StandUpBook book, long digestBefore) {
        is("digest() behind " + what, book.digest(), digestBefore);
    }

    void end() {
        if (wrong != 0) {
            System.out.println(test + ": " + wrong + " answers are not as due");
            System.exit(1);
        }
    }

    static void typeAll(StandUpBook book, String text) {
        for (int i = 0; i < text.length(); i++) {
            book.type(text.charAt(i));
        }
    }

    /** Clears THE TEXT, types this one and reads it. */
    static int readText(StandUpBook book, String text) {
        book.clear();
        typeAll(book, text);
        return book.read();
    }

    static StandUpBook told(String text) {
        StandUpBook book = new StandUpBook();
        int items = readText(book, text);
        if (items < 0) {
            System.out.println("a test's own text is wrong: " + text + " answered " + items);
            System.exit(1);
        }
        return book;
    }
}
