/** The boundary cases of promises 1 to 5: the last value that is well, and the first that is not. */
final class EdgesOfRowsTest {
    private static final int NULL = Due.NULL, PLACE = Due.PLACE, SIZE = Due.SIZE, STORE = Due.STORE, BAD = Due.BAD;
    private static final int MIN = Integer.MIN_VALUE, MAX = Integer.MAX_VALUE;
    private static final int BYTES = 0, SHORTS = 1, INTS = 2;
    // A row's items show by a walk: with six bridges, which of them are gone over laden first.
    private static final String SIX_BRIDGES = "crossing bridge 0 1 1;".repeat(6);

    public static void main(String[] args) {
        missingAtFirst();
        rowOfRows();
        rowOfLanes();
        rowOfItems();
        badAheadOfSize();
        sizeChangesNothing();
        inPlaceOfWhatIsThere();
        setOfRows();
        setOfPlaces();
        nullAheadOfPlace();
        lowestBits();
        copyOfRows();
        copyNullAheadOfStore();
        copyOfTwoLanes();
        copyBeyondAnEnd();
        copyThatWraps();
        copyAsTheyWereAhead();
        dropOfRows();
        dropOfItems();
        Due.end();
    }

    // "ROWS 0 .. 7 are missing (at first)"
    private static void missingAtFirst() {
        LadenEmpty x = new LadenEmpty();
        for (int r = 0; r < 8; r++) {
            Due.due("1: none ahead of row " + r, x.count(0), r);
            Due.due("1: set " + r, x.set(r, 0, 0), NULL);
            Due.due("1: drop " + r, x.drop(r), NULL);
            Due.due("1: copy " + r + " to itself", x.copy(r, 0, r, 0, 0), NULL);
            Due.due("2: row " + r, x.row(r, r % 3, r), r);
            Due.due("2: there is one more, " + r, x.count(0), r + 1);
        }
    }

    private static void rowOfRows() {
        LadenEmpty x = new LadenEmpty();
        Due.due("2: the first row", x.row(0, INTS, 3), 3);
        Due.due("2: the last row", x.row(7, INTS, 3), 3);
        Due.outside("2: row", 0, 7, BAD, r -> x.row(r, INTS, 3));
        Due.due("2: no other", x.count(0), 2);
    }

    private static void rowOfLanes() {
        LadenEmpty x = new LadenEmpty();
        Due.due("2: the first lane", x.row(0, BYTES, 1), 1);
        Due.due("2: shorts", x.row(1, SHORTS, 1), 1);
        Due.due("2: the last lane", x.row(2, INTS, 1), 1);
        Due.outside("2: lane", 0, 2, BAD, lane -> x.row(3, lane, 1));
        Due.due("2: no row of these", x.drop(3), NULL);
        Due.due("2: bytes indeed", x.set(0, 0, 98304), 0);
        Due.due("2: shorts indeed", x.set(1, 0, 98304), -32768);
        Due.due("2: ints indeed", x.set(2, 0, 98304), 98304);
    }

    // "0 to 40 ITEMS"; "BAD: .. n above 40; SIZE" (fewer than none)
    private static void rowOfItems() {
        LadenEmpty x = new LadenEmpty();
        for (int lane = 0; lane < 3; lane++) {
            Due.due("2: none, lane " + lane, x.row(lane, lane, 0), 0);
            Due.due("2: 40, lane " + lane, x.row(lane, lane, 40), 40);
            Due.due("2: 41, lane " + lane, x.row(lane, lane, 41), BAD);
            Due.due("2: MAX, lane " + lane, x.row(lane, lane, MAX), BAD);
            Due.due("2: -1, lane " + lane, x.row(lane, lane, -1), SIZE);
            Due.due("2: MIN, lane " + lane, x.row(lane, lane, MIN), SIZE);
            Due.due("5: 40 yet, lane " + lane, x.drop(lane), 40);
        }
    }

    private static void badAheadOfSize() {
        LadenEmpty x = new LadenEmpty();
        Due.due("2: the last row, fewer than none", x.row(7, BYTES, -1), SIZE);
        Due.due("2: row 8, fewer than none", x.row(8, BYTES, -1), BAD);
        Due.due("2: row -1, fewer than none", x.row(-1, BYTES, -1), BAD);
        Due.due("2: the last lane, fewer than none", x.row(7, INTS, -1), SIZE);
        Due.due("2: lane 3, fewer than none", x.row(7, 3, -1), BAD);
        Due.due("2: lane -1, fewer than none", x.row(7, -1, -1), BAD);
    }

    private static void sizeChangesNothing() {
        LadenEmpty x = new LadenEmpty();
        x.row(0, SHORTS, 2);
        Due.due("2: fewer than none where one is", x.row(0, INTS, -1), SIZE);
        Due.due("2: its lane yet", x.set(0, 1, 32768), -32768);
        Due.due("2: fewer than none where one is missing", x.row(1, INTS, -1), SIZE);
        Due.due("2: missing yet", x.set(1, 0, 0), NULL);
        Due.due("2: one row", x.count(0), 1);
    }

    // "A ROW of a LANE with n ITEMS, in place of what is there"; ITEMS are 0 at first
    private static void inPlaceOfWhatIsThere() {
        LadenEmpty x = Due.told(SIX_BRIDGES);
        x.row(4, INTS, 40);
        for (int i = 0; i < 40; i++) {
            x.set(4, i, 99);
        }
        Due.due("2: none of these is a crossing", x.walk(4, 1, 2), BAD);
        Due.due("2: in its place", x.row(4, SHORTS, 40), 40);
        Due.due("2: all 40 are alike", x.walk(4, 40, 2), 1);
        Due.due("2: the first is 0, not 1", x.walk(4, 1, 1), 0);
        Due.due("2: the last is 0, it comes ahead of the first", x.copy(4, 39, 4, 0, 1) + x.walk(4, 1, 1), 1);
        x.set(4, 39, 99);
        x.row(4, SHORTS, 39);
        Due.due("2: a shorter one", x.set(4, 39, 1), PLACE);
        x.row(4, BYTES, 40);
        Due.due("2: a longer one, 0 too", x.copy(4, 39, 4, 0, 1) + x.walk(4, 1, 1), 1);
        Due.due("2: one row yet", x.count(0), 1);
        Due.due("2: none in its place", x.row(4, BYTES, 0), 0);
        Due.due("2: that one has none", x.set(4, 0, 0), PLACE);
        Due.due("2: it is there", x.count(0), 1);
    }

    private static void setOfRows() {
        LadenEmpty x = new LadenEmpty();
        for (int r = 0; r < 8; r++) {
            x.row(r, INTS, 1);
        }
        Due.due("3: the first row", x.set(0, 0, 5), 5);
        Due.due("3: the last row", x.set(7, 0, 5), 5);
        Due.outside("3: row", 0, 7, BAD, r -> x.set(r, 0, 5));
        Due.outside("3: row, ahead of PLACE,", 0, 7, BAD, r -> x.set(r, -1, 5));
    }

    // "PLACE (no such place of a ROW)"
    private static void setOfPlaces() {
        LadenEmpty x = new LadenEmpty();
        x.row(0, INTS, 0);
        x.row(1, BYTES, 1);
        x.row(2, SHORTS, 39);
        x.row(3, INTS, 40);
        Due.outside("3: place of none", 0, -1, PLACE, i -> x.set(0, i, 5));
        Due.due("3: the only place", x.set(1, 0, 5), 5);
        Due.outside("3: place of one", 0, 0, PLACE, i -> x.set(1, i, 5));
        Due.due("3: the first of 39", x.set(2, 0, 5), 5);
        Due.due("3: the last of 39", x.set(2, 38, 5), 5);
        Due.outside("3: place of 39", 0, 38, PLACE, i -> x.set(2, i, 5));
        Due.due("3: the first of 40", x.set(3, 0, 5), 5);
        Due.due("3: the last of 40", x.set(3, 39, 5), 5);
        Due.outside("3: place of 40", 0, 39, PLACE, i -> x.set(3, i, 5));
    }

    private static void nullAheadOfPlace() {
        LadenEmpty x = new LadenEmpty();
        x.row(0, INTS, 1);
        Due.due("3: a row that is there", x.set(0, 1, 0), PLACE);
        Due.due("3: a row that is missing", x.set(1, 1, 0), NULL);
        x.drop(0);
        Due.due("3: a row that was there", x.set(0, 1, 0), NULL);
        Due.due("3: nor its places", x.set(0, 0, 0), NULL);
    }

    // "ITEM i becomes v, its lowest bits, as many as the LANE has (read with their sign)"
    private static void lowestBits() {
        LadenEmpty x = new LadenEmpty();
        int[][] ofBytes = {{127, 127}, {128, -128}, {-128, -128}, {-129, 127}, {255, -1}, {256, 0}, {-1, -1},
            {-256, 0}, {-257, -1}, {383, 127}, {384, -128}, {MAX, -1}, {MIN, 0}, {0x12345678, 0x78}};
        int[][] ofShorts = {{32767, 32767}, {32768, -32768}, {-32768, -32768}, {-32769, 32767}, {65535, -1}, {65536, 0},
            {128, 128}, {-129, -129}, {-1, -1}, {MAX, -1}, {MIN, 0}, {0x12345678, 0x5678}};
        int[][] ofInts = {{MAX, MAX}, {MIN, MIN}, {32768, 32768}, {-32769, -32769}, {65536, 65536}, {-1, -1}, {0, 0}};
        int[][][] all = {ofBytes, ofShorts, ofInts};
        for (int lane = 0; lane < 3; lane++) {
            x.row(lane, lane, 40);
            for (int[] pair : all[lane]) {
                Due.due("3: lane " + lane + ", " + pair[0], x.set(lane, 39, pair[0]), pair[1]);
            }
        }
        LadenEmpty y = Due.told(SIX_BRIDGES);
        Due.row(y, 0, BYTES, 256 + 11);
        Due.due("3: 11 it is, not 267", y.walk(0, 1, 1), 32);
        Due.row(y, 0, SHORTS, 256 + 11);
        Due.due("3: 267 it is", y.walk(0, 1, 1), BAD);
    }

    private static void copyOfRows() {
        LadenEmpty x = new LadenEmpty();
        for (int r = 0; r < 8; r++) {
            x.row(r, INTS, 2);
        }
        Due.due("4: from the first to the last", x.copy(0, 0, 7, 0, 2), 2);
        Due.due("4: from the last to the first", x.copy(7, 0, 0, 0, 2), 2);
        Due.outside("4: row a", 0, 7, BAD, a -> x.copy(a, 0, 0, 0, 2));
        Due.outside("4: row b", 0, 7, BAD, b -> x.copy(0, 0, b, 0, 2));
        Due.outside("4: row a, ahead of PLACE,", 0, 7, BAD, a -> x.copy(a, -1, 0, 0, 2));
        x.drop(5);
        Due.outside("4: row a, ahead of a b that is missing,", 0, 7, BAD, a -> x.copy(a, 0, 5, 0, 2));
        Due.outside("4: row b, ahead of an a that is missing,", 0, 7, BAD, b -> x.copy(5, 0, b, 0, 2));
    }

    // "FINDINGS, of several the first in time": NULL, STORE, PLACE
    private static void copyNullAheadOfStore() {
        LadenEmpty x = new LadenEmpty();
        x.row(0, INTS, 1);
        x.row(1, BYTES, 1);
        x.drop(1);
        Due.due("4: b, of another lane once", x.copy(0, 0, 1, 0, 1), NULL);
        Due.due("4: a, of another lane once", x.copy(1, 0, 0, 0, 1), NULL);
        Due.due("4: b, ahead of PLACE", x.copy(0, 2, 1, 2, -1), NULL);
        Due.due("4: a, ahead of PLACE", x.copy(1, 2, 0, 2, -1), NULL);
        x.row(1, BYTES, 1);
        Due.due("4: there, of another lane, ahead of PLACE", x.copy(0, 2, 1, 2, -1), STORE);
        x.row(1, INTS, 1);
        Due.due("4: there, of that lane", x.copy(0, 2, 1, 2, -1), PLACE);
        Due.due("4: nothing is wrong", x.copy(0, 0, 1, 0, 1), 1);
    }

    // "STORE (ROWS of two LANES)"
    private static void copyOfTwoLanes() {
        LadenEmpty x = new LadenEmpty();
        for (int lane = 0; lane < 3; lane++) {
            x.row(lane, lane, 1);
            x.row(4 + lane, lane, 1);
        }
        for (int a = 0; a < 3; a++) {
            for (int b = 0; b < 3; b++) {
                Due.due("4: lanes " + a + ", " + b, x.copy(a, 0, 4 + b, 0, 1), a == b ? 1 : STORE);
                Due.due("4: none of lanes " + a + ", " + b, x.copy(a, 0, 4 + b, 0, 0), a == b ? 0 : STORE);
            }
        }
    }

    // "PLACE (i, j, n below 0, or beyond an end)"
    private static void copyBeyondAnEnd() {
        LadenEmpty x = new LadenEmpty();
        x.row(0, BYTES, 40);
        x.row(1, BYTES, 5);
        x.row(2, BYTES, 0);
        Due.due("4: all 40 to itself", x.copy(0, 0, 0, 0, 40), 40);
        Due.due("4: 41", x.copy(0, 0, 0, 0, 41), PLACE);
        Due.due("4: all 5", x.copy(0, 0, 1, 0, 5), 5);
        Due.due("4: 6, b has 5", x.copy(0, 0, 1, 0, 6), PLACE);
        Due.due("4: 6, a has 5", x.copy(1, 0, 0, 0, 6), PLACE);
        Due.due("4: the last 5 of a", x.copy(0, 35, 1, 0, 5), 5);
        Due.due("4: one beyond the end of a", x.copy(0, 36, 1, 0, 5), PLACE);
        Due.due("4: to the last 5 of b", x.copy(1, 0, 0, 35, 5), 5);
        Due.due("4: one beyond the end of b", x.copy(1, 0, 0, 36, 5), PLACE);
        Due.due("4: the last one to the last one", x.copy(0, 39, 1, 4, 1), 1);
        Due.due("4: none at both ends", x.copy(0, 40, 1, 5, 0), 0);
        Due.due("4: none behind the end of a", x.copy(0, 41, 1, 5, 0), PLACE);
        Due.due("4: none behind the end of b", x.copy(0, 40, 1, 6, 0), PLACE);
        Due.due("4: i -1", x.copy(0, -1, 1, 0, 1), PLACE);
        Due.due("4: i -1, none", x.copy(0, -1, 1, 0, 0), PLACE);
        Due.due("4: j -1", x.copy(0, 0, 1, -1, 1), PLACE);
        Due.due("4: j -1, none", x.copy(0, 0, 1, -1, 0), PLACE);
        Due.due("4: n 0", x.copy(0, 0, 1, 0, 0), 0);
        Due.due("4: n -1", x.copy(0, 1, 1, 1, -1), PLACE);
        Due.due("4: none of none", x.copy(2, 0, 2, 0, 0), 0);
        Due.due("4: one of none", x.copy(2, 0, 0, 0, 1), PLACE);
        Due.due("4: one to none", x.copy(0, 0, 2, 0, 1), PLACE);
    }

    // Sums that an int does not hold are beyond an end, too.
    private static void copyThatWraps() {
        LadenEmpty x = new LadenEmpty();
        x.row(0, INTS, 40);
        int[] odd = {MIN, MIN + 1, -MAX, -41, 41, MAX - 40, MAX - 1, MAX};
        for (int v : odd) {
            Due.due("4: i " + v, x.copy(0, v, 0, 0, 1), PLACE);
            Due.due("4: j " + v, x.copy(0, 0, 0, v, 1), PLACE);
            Due.due("4: n " + v, x.copy(0, 1, 0, 1, v), PLACE);
            for (int w : odd) {
                Due.due("4: i " + v + ", n " + w, x.copy(0, v, 0, 0, w), PLACE);
                Due.due("4: j " + v + ", n " + w, x.copy(0, 0, 0, v, w), PLACE);
            }
        }
        Due.due("4: all 40 yet", x.copy(0, 0, 0, 0, 40), 40);
    }

    // "n ITEMS of a from i on come to b from j on, as they were ahead"
    private static void copyAsTheyWereAhead() {
        LadenEmpty x = Due.told(SIX_BRIDGES);
        Due.row(x, 0, BYTES, 1, 3, 5, 6, 8, 10);
        Due.due("4: onto itself, one on", x.copy(0, 0, 0, 1, 5), 5);
        Due.due("4: now 1 1 3 5 6 8", x.walk(0, 6, 2), 1);
        x.set(0, 0, 10);
        Due.due("4: now 10 1 3 5 6 8", x.walk(0, 6, 1), 7);
        Due.due("4: each once", x.walk(0, 6, 0), 1);
        Due.row(x, 0, BYTES, 1, 3, 5, 6, 8, 10);
        Due.due("4: onto itself, one back", x.copy(0, 1, 0, 0, 5), 5);
        x.set(0, 5, 0);
        Due.due("4: now 3 5 6 8 10 0", x.walk(0, 6, 1), 6);
        Due.due("4: each once, too", x.walk(0, 6, 0), 1);
        Due.row(x, 1, BYTES, 99, 98, 0, 0);
        Due.due("4: what goes ahead of the rest", x.copy(0, 0, 1, 0, 1), 1);
        Due.due("4: the first came", x.walk(1, 1, 1), 2);
        Due.due("4: the second did not", x.walk(1, 2, 1), BAD);
        Due.due("4: none come", x.copy(0, 0, 1, 1, 0), 0);
        Due.due("4: none came", x.walk(1, 2, 1), BAD);
        Due.due("4: the last one comes", x.copy(0, 5, 1, 1, 1), 1);
        Due.due("4: it came", x.walk(1, 2, 1), 2);
        x.set(0, 0, 0);
        Due.due("4: rows of their own", x.walk(1, 1, 1), 2);
    }

    private static void dropOfRows() {
        LadenEmpty x = new LadenEmpty();
        for (int r = 0; r < 8; r++) {
            x.row(r, INTS, 10 + r);
        }
        Due.outside("5: row", 0, 7, BAD, x::drop);
        Due.due("5: eight yet", x.count(0), 8);
        Due.due("5: the first row", x.drop(0), 10);
        Due.due("5: the last row", x.drop(7), 17);
        Due.due("5: six yet", x.count(0), 6);
        Due.due("5: the first row again", x.drop(0), NULL);
        Due.due("5: the last row again", x.drop(7), NULL);
        Due.due("5: six", x.count(0), 6);
        Due.due("5: the others are there", x.drop(1), 11);
    }

    // "how many ITEMS it had": 0 to 40
    private static void dropOfItems() {
        LadenEmpty x = new LadenEmpty();
        for (int n = 0; n <= 40; n++) {
            x.row(3, n % 3, n);
            Due.due("5: of " + n, x.drop(3), n);
            Due.due("5: missing, of " + n, x.drop(3), NULL);
        }
    }
}
