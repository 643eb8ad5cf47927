/** Promises 26 to 30: kinds, asks by their bodies, the trace, counts. */
final class AsksTest {
    private static final int NONE = Due.NONE, BAD = Due.BAD;
    // Of each sort a crossing, no two of them with the same ends and steps.
    private static final String ALL = "crossing ferry 5 0 9;crossing plank 4 1 8;crossing ford 3 2 7;"
        + "crossing gate 2 3 6;crossing bridge 1 4 5;";

    public static void main(String[] args) {
        kind();
        as();
        ask();
        count();
        Due.end();
    }

    private static void kind() {
        LadenEmpty x = Due.told(ALL);
        for (int i = 0; i < 5; i++) {
            Due.due("26: kind(" + i + ")", x.kind(i), 5 - i);
        }
        Due.due("26: kind(5)", x.kind(5), BAD);
        Due.due("26: kind(-1)", x.kind(-1), BAD);
    }

    private static void as() {
        LadenEmpty x = Due.told(ALL);
        String[] kindsOf = {"0 3 5", "0 3 4", "0 3", "0 1 2", "0 1"};
        for (int i = 0; i < 5; i++) {
            for (int kind = 0; kind < 6; kind++) {
                boolean is = kindsOf[i].indexOf('0' + kind) >= 0;
                Due.due("27: as(" + i + ", " + kind + ")", x.as(i, kind), is ? i : Due.KIND);
                Due.due("31: behind it", x.status(), is ? 0 : 3);
            }
        }
        Due.due("27: kind 6", x.as(0, 6), BAD);
        Due.due("27: kind -1", x.as(0, -1), BAD);
        Due.due("27: crossing 5", x.as(5, 0), BAD);
        Due.due("27: crossing -1", x.as(-1, 0), BAD);
        Due.due("27: it is as ahead of it", x.kind(0), 5);
    }

    private static void asked(LadenEmpty x, int crossing, int what, int answer, int... bodies) {
        String name = "28: ask(" + crossing + ", " + what + ")";
        Due.due(name, x.ask(crossing, what), answer);
        for (int i = 0; i < bodies.length; i++) {
            Due.due(name + ", 29: trace(" + i + ")", x.trace(i), bodies[i]);
        }
        for (int i = bodies.length; i < 18; i++) {
            Due.due(name + ", 29: trace(" + i + ")", x.trace(i), NONE);
        }
    }

    private static void ask() {
        LadenEmpty x = Due.told(ALL);
        asked(x, 0, 0, 9 - 100, 13, 10);
        asked(x, 1, 0, 2 * (8 - 100), 14, 13, 10);
        asked(x, 2, 0, 7 - 100, 13, 10);
        asked(x, 3, 0, -(6 + (3 + 2 - 1000)), 12, 11, 10, 22, 21, 20);
        asked(x, 4, 0, 5 + (4 + 1), 11, 10, 21, 20);
        asked(x, 0, 1, 2 * (0 - (9 - 100)), 24, 23, 20, 13, 10);
        asked(x, 1, 1, 1 - 2 * (8 - 100), 23, 20, 14, 13, 10);
        asked(x, 2, 1, 2 - (7 - 100), 23, 20, 13, 10);
        asked(x, 3, 1, 3 + 2 - 1000, 22, 21, 20);
        asked(x, 4, 1, 4 + 1, 21, 20);
        Due.due("28: crossing 5", x.ask(5, 0), BAD);
        Due.due("28: crossing -1", x.ask(-1, 0), BAD);
        Due.due("28: what 2", x.ask(0, 2), BAD);
        Due.due("28: what -1", x.ask(0, -1), BAD);
        Due.due("29: stays where it is refused", x.trace(0), 21);
        Due.due("29: stays", x.trace(1), 20);
        Due.due("29: trace(-1)", x.trace(-1), NONE);
        Due.due("29: trace(MAX)", x.trace(Integer.MAX_VALUE), NONE);
        Due.tell(x, "crossing ford 0 1 1;");
        Due.due("29: stays with another land", x.trace(0), 21);
    }

    private static void count() {
        LadenEmpty x = Due.told(ALL + "carrier 2 0;carrier 0 0;load 0 0;load 1 1;load 2 2;");
        x.row(0, 0, 0);
        x.row(7, 0, 0);
        x.go(0, 3);
        x.feast();
        x.feast();
        Due.feedText(x, "some bytes");
        int[] due = {2, 5, 2, 3, 3, 6, 8, 10};
        for (int what = 0; what < 8; what++) {
            Due.due("30: count(" + what + ")", x.count(what), due[what]);
        }
        Due.due("30: count(8)", x.count(8), BAD);
        Due.due("30: count(-1)", x.count(-1), BAD);
    }
}
