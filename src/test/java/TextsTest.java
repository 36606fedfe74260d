import java.util.Random;

/**
 * Texts of up to 150 bytes, each read by an object of its own and by PlainBook: right ones, ones with a byte changed,
 * and all beginnings of some.
 */
public final class TextsTest {
    private static final int MOST_BYTES = 150;
    private static final int RANDOM_TEXTS = 4000;
    private static final int TEXTS_READ_BYTE_BY_BYTE = 60;
    // All items, numbers of one and two figures, blanks at the ends and between, and just as long as a text may be.
    private static final String FULL_ONE = " book 40; piece 0 9 9 9;on 5 1 1 0 0;on 4 09 9 9 1;open 12;pull 2 3;"
            + "piece 1 2 3 4;open 3 ;on 2 5 6 7 3 ;pull 0 01;piece  3 8 7 6;on 1 1 1 1 4;open 9; ";

    private final Random random = new Random(150);

    public static void main(String[] args) {
        if (FULL_ONE.length() != MOST_BYTES) {
            System.out.println("a test's own text has " + FULL_ONE.length() + " bytes");
            System.exit(1);
        }
        TextsTest test = new TextsTest();
        readWhole("the full one", FULL_ONE);
        everyByteInEveryPlace();
        test.randomTexts();
        test.byteByByte();
    }

    private static boolean readWhole(String name, String text) {
        Pair pair = new Pair(name + " '" + text + "'");
        pair.call("piece", 2, 3, 4, 5, -1);
        pair.call("opens", 5);
        pair.typeAll(text);
        boolean right = pair.call("read") > 0;
        pair.callForAll();
        return right;
    }

    private static void everyByteInEveryPlace() {
        for (int at = 0; at < MOST_BYTES; at++) {
            for (char c = 0; c < 128; c++) {
                readWhole("byte " + (int) c + " at " + at, FULL_ONE.substring(0, at) + c + FULL_ONE.substring(at + 1));
            }
        }
    }

    private void randomTexts() {
        int rightOnes = 0;
        for (int n = 0; n < RANDOM_TEXTS; n++) {
            String text = rightText();
            if (n % 3 > 0) {
                text = changed(text);
            }
            boolean right = readWhole("random text " + n, text.substring(0, Math.min(MOST_BYTES, text.length())));
            rightOnes += right ? 1 : 0;
        }
        if (rightOnes < RANDOM_TEXTS / 4 || rightOnes > RANDOM_TEXTS * 3 / 4) {
            System.out.println("a test's own texts: " + rightOnes + " of " + RANDOM_TEXTS + " are right");
            System.exit(1);
        }
    }

    /** Two calls a byte: 300 for the longest text, and some to look at all in between. */
    private void byteByByte() {
        for (int n = 0; n < TEXTS_READ_BYTE_BY_BYTE; n++) {
            String text = n % 2 == 0 ? rightText() : changed(rightText());
            Pair pair = new Pair("byte by byte '" + text + "'");
            pair.call("read");
            for (int i = 0; i < Math.min(MOST_BYTES, text.length()); i++) {
                pair.call("type", text.charAt(i));
                if (pair.call("read") > 0) {
                    pair.callForAll();
                }
            }
            pair.call("clear");
            pair.call("read");
            pair.callForAll();
        }
    }

    /** A text that is right, and mostly as long as it may be. */
    private String rightText() {
        StringBuilder text = new StringBuilder(blanks(0) + "book" + number(6, 40) + blanks(0) + ";");
        int most = random.nextInt(5) == 0 ? random.nextInt(MOST_BYTES) : MOST_BYTES;
        int pieces = 0;
        String item = rightItem(pieces);
        while (text.length() + item.length() <= most) {
            text.append(item);
            pieces += item.contains("piece") || item.contains("on") ? 1 : 0;
            item = rightItem(pieces);
        }
        return text.toString();
    }

    private String rightItem(int pieces) {
        int sort = random.nextInt(pieces == 0 ? 2 : 6);
        String item;
        if (sort == 5) {
            item = "pull" + number(0, pieces - 1) + number(0, 3);
        } else if (sort == 0 || pieces == 7) {
            item = "open" + number(0, 12);
        } else {
            boolean on = pieces > 0 && random.nextBoolean();
            item = (on ? "on" : "piece") + number(0, 5) + number(1, 9) + number(1, 9) + number(0, 9)
                    + (on ? number(0, pieces - 1) : "");
        }
        return blanks(0) + item + blanks(0) + ";";
    }

    private String number(int low, int high) {
        int value = low + random.nextInt(high - low + 1);
        return blanks(1) + (value < 10 && random.nextInt(9) == 0 ? "0" : "") + value;
    }

    private String blanks(int least) {
        return " ".repeat(least + (random.nextInt(20) == 0 ? 1 + random.nextInt(2) : 0));
    }

    /** One byte, number or item more, less or other than it was. */
    private String changed(String text) {
        int at = random.nextInt(text.length());
        String ahead = text.substring(0, at);
        switch (random.nextInt(6)) {
            case 0: return ahead + text.substring(at + 1);
            case 1: return ahead + (char) random.nextInt(128) + text.substring(at);
            case 2: return ahead + "0123456789; abeiklnopu".charAt(random.nextInt(22)) + text.substring(at + 1);
            case 3: return ahead;
            case 4: return text + (random.nextBoolean() ? "piece 0 1 1 1;" : "book 20;");
            default:
                return text.substring(0, text.lastIndexOf(';', at) + 1) + text.substring(text.indexOf(';', at) + 1);
        }
    }
}
