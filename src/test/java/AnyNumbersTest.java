import java.util.Random;

/** No call throws, whatever its numbers are, with a land and without; what is BAD changes no count. */
final class AnyNumbersTest {
    private static final int[] EDGES = {Integer.MIN_VALUE, Integer.MIN_VALUE + 1, -1000000, -41, -2, -1, 0, 1, 2, 3, 4,
        5, 6, 7, 8, 9, 24, 31, 32, 39, 40, 41, 63, 64, 400, 1 << 30, Integer.MAX_VALUE - 1, Integer.MAX_VALUE};
    private static final String[] LANDS = {"",
        "crossing bridge 0 1 1;carrier 0 1;load 0 1;",
        "crossing ford 5 4 9;crossing gate 4 5 9;carrier 5 0;carrier 4 0;load 5 4;load 4 5;",
        "crossing plank 0 1 1;crossing ferry 1 0 9;load 1 0;",
        "crossing bridge 0 1 1;crossing bridge 1 2 1;crossing bridge 2 3 1;crossing bridge 3 4 1;"
            + "crossing bridge 4 5 1;crossing bridge 5 0 1;carrier 0 63;carrier 3 0;carrier 5 21;"
            + "load 0 3;load 1 4;load 2 5;load 3 0;"};

    private static Random random;

    public static void main(String[] args) {
        for (int run = 0; run < 2000; run++) {
            random = new Random(run);
            LadenEmpty x = new LadenEmpty();
            Due.tell(x, LANDS[run % LANDS.length]);
            if (run % 2 == 0) {
                comparedCalls(x, run);
            } else {
                manyCalls(x);
            }
        }
        Due.end();
    }

    // Each takes up to 19 calls, as all counts are asked twice: with the land they stay below 512.
    private static void comparedCalls(LadenEmpty x, int run) {
        for (int i = 0; i < 24; i++) {
            int[] ahead = counts(x);
            int call = random.nextInt(29);
            if (call(x, call) == Due.BAD) {
                unchanged("run " + run + ", a BAD call of sort " + call, ahead, counts(x));
            }
        }
    }

    private static void manyCalls(LadenEmpty x) {
        for (int i = 0; i < 470; i++) {
            call(x, random.nextInt(29));
        }
    }

    private static int any() {
        return random.nextInt(3) > 0 ? random.nextInt(4) : EDGES[random.nextInt(EDGES.length)];
    }

    private static int[] counts(LadenEmpty x) {
        int[] counts = new int[9];
        for (int what = 0; what < 8; what++) {
            counts[what] = x.count(what);
        }
        counts[8] = x.status();
        return counts;
    }

    private static void unchanged(String what, int[] ahead, int[] then) {
        for (int i = 0; i < ahead.length; i++) {
            Due.due(what + ", count " + i, then[i], ahead[i]);
        }
    }

    private static int call(LadenEmpty x, int call) {
        switch (call) {
            case 0: return x.row(any(), any(), any());
            case 1: return x.set(any(), any(), any());
            case 2: return x.copy(any(), any(), any(), any(), any());
            case 3: return x.drop(any());
            case 4: return x.feed(random.nextLong(), any());
            case 5: return random.nextInt(4) == 0 ? x.land() : 0;
            case 6: return x.fault();
            case 7: return x.go(any(), any());
            case 8: return x.take(any(), any());
            case 9: return x.lay(any());
            case 10: return x.hand(any(), any());
            case 11: return x.feast();
            case 12: return x.put(any(), any());
            case 13: return x.undo();
            case 14: return x.carrier(any(), any());
            case 15: return x.load(any(), any());
            case 16: return x.fewest(any(), any());
            case 17: return x.whom(any());
            case 18: return x.off(any(), any());
            case 19: return x.reach(any());
            case 20: return x.right(any(), any());
            case 21: return x.walk(any(), any(), any());
            case 22: return x.image(any());
            case 23: return x.restore(any());
            case 24: return x.kind(any());
            case 25: return x.as(any(), any());
            case 26: return x.ask(any(), any());
            case 27: return x.trace(any());
            default: return x.count(any());
        }
    }
}
