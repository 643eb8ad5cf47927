import java.util.function.IntUnaryOperator;

/** What the tests share: counting wrong answers, and telling a text to an object. */
final class Due {
    static final int NONE = -1000000, BAD = -1000001, STATE = -1000002, FULL = -1000003;
    static final int NULL = -1000011, PLACE = -1000012, KIND = -1000013, SIZE = -1000014, STORE = -1000015;

    private static int wrong = 0;

    private Due() {
    }

    static void due(String what, long got, long want) {
        if (got != want) {
            wrong++;
            System.out.println(what + " answered " + got + ", due is " + want);
        }
    }

    /** Every number ahead of the first that is well, and behind the last, has this one answer. */
    static void outside(String what, int first, int last, int want, IntUnaryOperator call) {
        int[] numbers = {first - 1, last + 1, Integer.MIN_VALUE, Integer.MAX_VALUE, NONE};
        for (int number : numbers) {
            due(what + " " + number, call.applyAsInt(number), want);
        }
    }

    static void feedText(LadenEmpty x, String text) {
        for (int i = 0; i < text.length(); i += 8) {
            String part = text.substring(i, Math.min(i + 8, text.length()));
            long w = 0;
            for (int k = 0; k < part.length(); k++) {
                w = w << 8 | part.charAt(k) & 255;
            }
            x.feed(w, part.length());
        }
    }

    static int tell(LadenEmpty x, String text) {
        feedText(x, text);
        return x.land();
    }

    static LadenEmpty told(String text) {
        LadenEmpty x = new LadenEmpty();
        if (tell(x, text) < 1) {
            due("the land of the test: " + text, 0, 1);
        }
        return x;
    }

    static void row(LadenEmpty x, int row, int lane, int... items) {
        x.row(row, lane, items.length);
        for (int i = 0; i < items.length; i++) {
            x.set(row, i, items[i]);
        }
    }

    static void end() {
        if (wrong > 0) {
            System.out.println(wrong + " wrong");
            System.exit(1);
        }
    }
}
