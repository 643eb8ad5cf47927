import java.util.function.ToIntFunction;

/** "An object is used for at most 512 calls": the 512th answers as the first, whatever the calls ahead of it were. */
final class LastCallsTest {
    private static final int CALLS = 512;
    private static final String LAND = "crossing bridge 2 5 9;crossing bridge 0 5 9;crossing gate 3 4 9;"
        + "crossing plank 1 0 9;crossing ford 2 3 9;crossing bridge 1 4 9;carrier 5 2;carrier 0 0;load 4 1;load 0 0;";
    private static final int CALLS_OF_LAND = (LAND.length() + 7) / 8 + 1;

    public static void main(String[] args) {
        calls();
        takeAndLayByTurns();
        textsAgainAndAgain();
        feedAgainAndAgain();
        actsAndUndo();
        imagesByTurns();
        Due.end();
    }

    private static void alike(String what, int due, ToIntFunction<LadenEmpty> call) {
        LadenEmpty x = Due.told(LAND);
        int unlike = 0;
        for (int calls = CALLS_OF_LAND; calls < CALLS; calls++) {
            unlike += call.applyAsInt(x) == due ? 0 : 1;
        }
        Due.due(what + ", up to the 512th call: how many are not " + due, unlike, 0);
    }

    private static void calls() {
        alike("row", 40, x -> x.row(7, 2, 40));
        alike("row, BAD", Due.BAD, x -> x.row(8, 2, 40));
        alike("set of one that is missing", Due.NULL, x -> x.set(0, 0, 0));
        alike("fault", 0, LadenEmpty::fault);
        alike("feast", 1, LadenEmpty::feast);
        alike("put", 1, x -> x.put(0, 1));
        alike("undo", Due.STATE, LadenEmpty::undo);
        alike("carrier", 1, x -> x.carrier(0, 3));
        alike("load", 1, x -> x.load(0, 1));
        alike("fewest, the farthest", 162, x -> x.fewest(0, 0));
        alike("whom", 1, x -> x.whom(0));
        alike("off", 27, x -> x.off(0, 4));
        alike("reach", 63, x -> x.reach(1));
        alike("right", Due.NONE, x -> x.right(0, 0));
        alike("image", 1, x -> x.image(1));
        alike("kind", 2, x -> x.kind(2));
        alike("as", Due.KIND, x -> x.as(2, 3));
        alike("ask, the longest", -(9 + 2 + 3 - 1000), x -> x.ask(2, 0));
        alike("trace", Due.NONE, x -> x.trace(0));
        alike("count", 6, x -> x.count(1));
        alike("status", 0, LadenEmpty::status);
    }

    private static void takeAndLayByTurns() {
        LadenEmpty x = Due.told(LAND);
        for (int calls = CALLS_OF_LAND; calls + 2 <= CALLS; calls += 2) {
            Due.due("call " + (calls + 1) + ", take", x.take(1, 1), 1);
            Due.due("call " + (calls + 2) + ", lay", x.lay(1), 1);
        }
    }

    private static void textsAgainAndAgain() {
        LadenEmpty x = new LadenEmpty();
        for (int i = 0; i < CALLS / 4; i++) {
            x.feed(0x63726f7373696e67L, 8);
            x.feed(0x20666f7264203020L, 8);
            x.feed(0x3120313b20202020L, 8);
            Due.due("land " + i, x.land(), 1);
        }
        LadenEmpty z = new LadenEmpty();
        for (int i = 0; i < CALLS; i++) {
            Due.due("land of no bytes " + i, z.land(), -1000100);
        }
    }

    private static void feedAgainAndAgain() {
        LadenEmpty x = new LadenEmpty();
        for (int i = 0; i < CALLS - 1; i++) {
            Due.due("feed " + i, x.feed(' ', 8), i < 50 ? 8 * i + 8 : Due.FULL);
        }
        Due.due("blanks and bytes 0, the last call", x.land(), -1000100);
    }

    private static void actsAndUndo() {
        LadenEmpty x = Due.told(LAND);
        int acts = 0;
        for (int calls = CALLS_OF_LAND; calls < CALLS; calls++) {
            boolean isUndo = calls % 5 == 4;
            acts = isUndo ? acts - 1 : Math.min(acts + 1, 24);
            Due.due("call " + (calls + 1), isUndo ? x.undo() : x.feast(), isUndo ? acts : 1);
        }
    }

    private static void imagesByTurns() {
        LadenEmpty x = Due.told(LAND);
        x.image(0);
        int steps = 0;
        for (int calls = CALLS_OF_LAND + 1; calls + 7 <= CALLS; calls += 6) {
            int town = x.carrier(1, 0);
            Due.due("to the other town", x.go(1, 3), 1 - town);
            steps += 9;
            Due.due("kept", x.image(1), 1);
            Due.due("the first one", x.restore(0) + x.carrier(1, 0), 1);
            Due.due("the other one", x.restore(1), 1);
        }
        Due.due("all steps", x.count(5), steps);
    }
}
