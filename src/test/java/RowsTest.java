/** Promises 1 to 5, and 31 of rows. */
final class RowsTest {
    private static final int MIN = Integer.MIN_VALUE, MAX = Integer.MAX_VALUE;

    public static void main(String[] args) {
        newObject();
        row();
        set();
        copy();
        drop();
        status();
        Due.end();
    }

    private static void newObject() {
        LadenEmpty x = new LadenEmpty();
        for (int what = 0; what < 8; what++) {
            Due.due("1: count(" + what + ")", x.count(what), 0);
        }
        Due.due("1: fault()", x.fault(), 0);
        Due.due("1: status()", x.status(), 0);
        Due.due("1: trace(0)", x.trace(0), Due.NONE);
        for (int row = 0; row < 8; row++) {
            Due.due("1: drop(" + row + ")", x.drop(row), Due.NULL);
        }
        Due.due("1: feast()", x.feast(), Due.STATE);
        Due.due("1: NONE", LadenEmpty.NONE, -1000000);
        Due.due("1: BAD", LadenEmpty.BAD, -1000001);
        Due.due("1: STATE", LadenEmpty.STATE, -1000002);
        Due.due("1: FULL", LadenEmpty.FULL, -1000003);
    }

    private static void row() {
        LadenEmpty x = new LadenEmpty();
        Due.due("2: most items", x.row(7, 2, 40), 40);
        Due.due("2: no items", x.row(0, 0, 0), 0);
        Due.due("2: two rows", x.count(0), 2);
        Due.due("2: row 8", x.row(8, 0, 1), Due.BAD);
        Due.due("2: row -1", x.row(-1, 0, 1), Due.BAD);
        Due.due("2: lane 3", x.row(0, 3, 1), Due.BAD);
        Due.due("2: lane -1", x.row(0, -1, 1), Due.BAD);
        Due.due("2: 41 items", x.row(0, 0, 41), Due.BAD);
        Due.due("2: MAX items", x.row(0, 0, MAX), Due.BAD);
        Due.due("2: BAD ahead of SIZE", x.row(8, 0, -1), Due.BAD);
        Due.due("2: fewer than none", x.row(7, 0, -1), Due.SIZE);
        Due.due("2: MIN items", x.row(7, 0, MIN), Due.SIZE);
        Due.due("2: SIZE changes nothing", x.set(7, 39, 70000), 70000);
        Due.due("2: in place of what is there", x.row(7, 1, 3), 3);
        Due.due("2: the new lane", x.set(7, 2, 70000), 4464);
        Due.due("2: the new size", x.set(7, 3, 1), Due.PLACE);
        Due.row(x, 6, 1, 9, 9, 9);
        Due.tell(x, "crossing bridge 0 1 1;crossing bridge 0 1 1;");
        Due.due("2: such items are none", x.walk(6, 3, 2), Due.BAD);
        x.row(6, 1, 3);
        Due.due("2: items are 0 at first", x.walk(6, 1, 0), 2);
        Due.due("2: empty over crossing 0", x.walk(6, 1, 1), 0);
        Due.due("2: and again", x.walk(6, 3, 2), 1);
    }

    private static void set() {
        LadenEmpty x = new LadenEmpty();
        x.row(0, 0, 2);
        x.row(1, 1, 2);
        x.row(2, 2, 2);
        Due.due("3: byte 127", x.set(0, 0, 127), 127);
        Due.due("3: byte 128", x.set(0, 0, 128), -128);
        Due.due("3: byte 256", x.set(0, 1, 256), 0);
        Due.due("3: byte -129", x.set(0, 1, -129), 127);
        Due.due("3: short 32767", x.set(1, 0, 32767), 32767);
        Due.due("3: short 32768", x.set(1, 0, 32768), -32768);
        Due.due("3: short MIN", x.set(1, 1, MIN), 0);
        Due.due("3: int MIN", x.set(2, 1, MIN), MIN);
        Due.due("3: row 8", x.set(8, 0, 0), Due.BAD);
        Due.due("3: row -1", x.set(-1, 0, 0), Due.BAD);
        Due.due("3: missing", x.set(3, -1, 0), Due.NULL);
        Due.due("3: place -1", x.set(0, -1, 0), Due.PLACE);
        Due.due("3: place 2", x.set(0, 2, 0), Due.PLACE);
        Due.due("3: place MAX", x.set(0, MAX, 0), Due.PLACE);
    }

    // What a row holds shows where a walk over fords alone finds an item that is none.
    private static int firstBad(LadenEmpty x, int row, int n) {
        for (int i = 1; i <= n; i++) {
            if (x.walk(row, i, 0) == Due.BAD) {
                return i - 1;
            }
        }
        return -1;
    }

    private static void copy() {
        LadenEmpty x = Due.told("crossing ford 0 1 1;");
        Due.row(x, 0, 2, 0, 1, 7, 1, 0);
        Due.due("4: forward onto itself", x.copy(0, 1, 0, 2, 3), 3);
        Due.due("4: as they were ahead", firstBad(x, 0, 5), 3);
        x.set(0, 3, 0);
        Due.due("4: none else came", firstBad(x, 0, 5), -1);
        Due.row(x, 0, 2, 0, 1, 7, 1, 0);
        Due.due("4: backward onto itself", x.copy(0, 1, 0, 0, 4), 4);
        Due.due("4: as they were ahead too", firstBad(x, 0, 5), 1);
        Due.row(x, 0, 2, 7, 0, 0);
        x.row(1, 2, 5);
        Due.due("4: to another row", x.copy(0, 0, 1, 4, 1), 1);
        Due.due("4: where it came", firstBad(x, 1, 5), 4);
        Due.due("4: none at the ends", x.copy(0, 3, 1, 5, 0), 0);
        Due.due("4: i beyond", x.copy(0, 4, 1, 0, 0), Due.PLACE);
        Due.due("4: j beyond", x.copy(0, 0, 1, 6, 0), Due.PLACE);
        Due.due("4: i below", x.copy(0, -1, 1, 0, 1), Due.PLACE);
        Due.due("4: j below", x.copy(0, 0, 1, -1, 1), Due.PLACE);
        Due.due("4: n below", x.copy(0, 0, 1, 0, -1), Due.PLACE);
        Due.due("4: n beyond a", x.copy(0, 1, 1, 0, 3), Due.PLACE);
        Due.due("4: n beyond b", x.copy(0, 0, 1, 3, 3), Due.PLACE);
        Due.due("4: all MAX", x.copy(0, MAX, 1, MAX, MAX), Due.PLACE);
        Due.due("4: all MIN", x.copy(0, MIN, 1, MIN, MIN), Due.PLACE);
        x.row(2, 1, 5);
        Due.due("4: two lanes, ahead of place", x.copy(0, -1, 2, 0, 0), Due.STORE);
        Due.due("4: missing, ahead of lanes", x.copy(0, 0, 3, 0, 0), Due.NULL);
        Due.due("4: missing a", x.copy(3, 0, 0, 0, 0), Due.NULL);
        Due.due("4: row a 8", x.copy(8, 0, 3, 0, 0), Due.BAD);
        Due.due("4: row b -1", x.copy(3, 0, -1, 0, 0), Due.BAD);
        Due.due("4: nothing came by these", firstBad(x, 1, 5), 4);
    }

    private static void drop() {
        LadenEmpty x = new LadenEmpty();
        x.row(4, 1, 17);
        Due.due("5: drop", x.drop(4), 17);
        Due.due("5: again", x.drop(4), Due.NULL);
        Due.due("5: none is left", x.count(0), 0);
        Due.due("5: set", x.set(4, 0, 0), Due.NULL);
        Due.due("5: row 8", x.drop(8), Due.BAD);
        Due.due("5: row -1", x.drop(-1), Due.BAD);
        x.row(4, 1, 0);
        Due.due("5: one with none", x.drop(4), 0);
    }

    private static void status() {
        LadenEmpty x = Due.told("crossing bridge 0 1 1;");
        x.set(0, 0, 0);
        Due.due("31: NULL", x.status(), 1);
        x.row(8, 0, 0);
        x.set(8, 0, 0);
        x.copy(8, 0, 0, 0, 0);
        x.drop(8);
        x.as(1, 0);
        x.as(0, 6);
        Due.due("31: BAD is none of these", x.status(), 1);
        x.row(0, 0, 1);
        Due.due("31: row", x.status(), 0);
        x.set(0, 1, 0);
        Due.due("31: PLACE", x.status(), 2);
        x.set(0, 0, 2);
        Due.due("31: set", x.status(), 0);
        x.as(0, 2);
        Due.due("31: KIND", x.status(), 3);
        x.go(0, 0);
        x.kind(0);
        x.ask(0, 0);
        x.feast();
        Due.due("31: no row in these", x.status(), 3);
        x.walk(0, 1, 0);
        x.walk(0, 41, 0);
        Due.due("31: a walk that is BAD", x.status(), 3);
        x.walk(0, 2, 0);
        Due.due("31: a walk, PLACE", x.status(), 2);
        x.walk(1, 0, 0);
        Due.due("31: a walk, NULL", x.status(), 1);
        x.walk(0, 0, 0);
        Due.due("31: a walk", x.status(), 0);
        x.row(0, 0, -1);
        Due.due("31: SIZE", x.status(), 4);
        x.as(0, 1);
        Due.due("31: as", x.status(), 0);
        x.row(1, 1, 1);
        x.copy(0, 0, 1, 0, 1);
        Due.due("31: STORE", x.status(), 5);
        x.copy(0, 0, 0, 0, 1);
        Due.due("31: copy", x.status(), 0);
        x.drop(2);
        Due.due("31: drop of none", x.status(), 1);
        x.drop(1);
        Due.due("31: drop", x.status(), 0);
        LadenEmpty y = new LadenEmpty();
        y.drop(0);
        y.walk(0, 0, 0);
        Due.due("31: a walk that is STATE", y.status(), 1);
    }
}
