import java.util.Random;

/**
 * Promises 2 to 5, 23, 30, 31: calls with rows by chance (always the same ones), compared with
 * Java's own arrays: what the machine would throw is what is to be found.
 */
final class RandomRowsTest {
    private static final int OBJECTS = 2000, CALLS = 200;
    private static final int[] EDGES = {Integer.MIN_VALUE, -1000000, -1, 11, 12, 13, 39, 40, 41, 127, 128, 255, 256,
        32767, 32768, 65535, 65536, Integer.MAX_VALUE};
    private static final String LAND = "crossing bridge 0 1 1;crossing ford 0 1 1;crossing gate 0 1 1;"
        + "crossing bridge 0 1 1;crossing ferry 0 1 1;crossing bridge 0 1 1;carrier 0 0;";
    private static final int TURNING = 0b101101;

    private final Random random;
    private final LadenEmpty x = Due.told(LAND);
    private final Object[] rows = new Object[8];
    private int status = 0;
    private String name;

    private RandomRowsTest(int object) {
        random = new Random(object);
        name = "object " + object;
    }

    public static void main(String[] args) {
        for (int object = 0; object < OBJECTS; object++) {
            new RandomRowsTest(object).play();
        }
        Due.end();
    }

    private void play() {
        String object = name;
        for (int i = 0; i < CALLS; i++) {
            name = object + ", call " + i;
            call();
            Due.due(name + ", 31: status()", x.status(), status);
        }
        int there = 0;
        for (Object row : rows) {
            there += row == null ? 0 : 1;
        }
        Due.due(object + ", 30: count(0)", x.count(0), there);
    }

    private int small(int n) {
        return random.nextInt(25) == 0 ? EDGES[random.nextInt(EDGES.length)] : random.nextInt(n);
    }

    private int row() {
        return random.nextInt(25) == 0 ? 8 - 9 * random.nextInt(2) : random.nextInt(3);
    }

    private void call() {
        switch (random.nextInt(12)) {
            case 0: case 1: make(row(), random.nextInt(8) == 0 ? small(3) : random.nextInt(2), small(9)); break;
            case 2: drop(row()); break;
            case 3: case 4: case 5: copy(row(), small(6), row(), small(6), small(6)); break;
            case 6: case 7: case 8: set(row(), small(8), small(12)); break;
            default: walk(row(), small(9), small(3)); break;
        }
    }

    private void due(String call, int got, int want) {
        Due.due(name + ": " + call, got, want);
        boolean isFound = want <= Due.NULL && want >= Due.STORE;
        status = want == Due.BAD ? status : isFound ? -1000010 - want : 0;
    }

    private static boolean isRow(int r) {
        return r >= 0 && r < 8;
    }

    private static int size(Object row) {
        return java.lang.reflect.Array.getLength(row);
    }

    private static int item(Object row, int i) {
        return java.lang.reflect.Array.getInt(row, i);
    }

    private void make(int r, int lane, int n) {
        String call = "2: row(" + r + ", " + lane + ", " + n + ")";
        if (!isRow(r) || lane < 0 || lane > 2 || n > 40) {
            due(call, x.row(r, lane, n), Due.BAD);
            return;
        }
        try {
            rows[r] = lane == 0 ? new byte[n] : lane == 1 ? new short[n] : new int[n];
            due(call, x.row(r, lane, n), n);
        } catch (NegativeArraySizeException e) {
            due(call, x.row(r, lane, n), Due.SIZE);
        }
    }

    private void set(int r, int i, int v) {
        due("3: set(" + r + ", " + i + ", " + v + ")", x.set(r, i, v), isRow(r) ? setIn(rows[r], i, v) : Due.BAD);
    }

    private static int setIn(Object row, int i, int v) {
        if (row == null) {
            return Due.NULL;
        }
        try {
            if (row instanceof byte[] bytes) {
                return bytes[i] = (byte) v;
            }
            return row instanceof short[] shorts ? (shorts[i] = (short) v) : (((int[]) row)[i] = v);
        } catch (ArrayIndexOutOfBoundsException e) {
            return Due.PLACE;
        }
    }

    private void copy(int a, int i, int b, int j, int n) {
        due("4: copy(" + a + ", " + i + ", " + b + ", " + j + ", " + n + ")", x.copy(a, i, b, j, n),
            isRow(a) && isRow(b) ? copyBetween(rows[a], i, rows[b], j, n) : Due.BAD);
    }

    private static int copyBetween(Object a, int i, Object b, int j, int n) {
        try {
            System.arraycopy(a, i, b, j, n);
            return n;
        } catch (NullPointerException e) {
            return Due.NULL;
        } catch (ArrayStoreException e) {
            return Due.STORE;
        } catch (IndexOutOfBoundsException e) {
            return Due.PLACE;
        }
    }

    private void drop(int r) {
        int want = !isRow(r) ? Due.BAD : rows[r] == null ? Due.NULL : size(rows[r]);
        due("5: drop(" + r + ")", x.drop(r), want);
        if (isRow(r)) {
            rows[r] = null;
        }
    }

    private void walk(int r, int n, int what) {
        boolean isBad = !isRow(r) || n < 0 || n > 40 || what < 0 || what > 2;
        due("23: walk(" + r + ", " + n + ", " + what + ")", x.walk(r, n, what),
            isBad ? Due.BAD : walkOf(rows[r], n, what));
    }

    // All 64 ways to stand ahead of it are tried; the first that cannot be is where the last one fails.
    private static int walkOf(Object row, int n, int what) {
        if (row == null || n > size(row)) {
            return row == null ? Due.NULL : Due.PLACE;
        }
        for (int i = 0; i < n; i++) {
            if (item(row, i) < 0 || item(row, i) > 11) {
                return Due.BAD;
            }
        }
        int fits = 0;
        int sure = -1;
        int wrong = 0;
        for (int set = 0; set < 64; set++) {
            if ((set & ~TURNING) == 0) {
                int failsAt = failsAt(set, row, n);
                fits += failsAt == n ? 1 : 0;
                sure &= failsAt == n ? set : -1;
                wrong = Math.max(wrong, failsAt);
            }
        }
        return what == 0 ? fits : what == 1 ? fits == 0 ? Due.NONE : sure : wrong == n ? Due.NONE : wrong;
    }

    private static int failsAt(int set, Object row, int n) {
        int next = set;
        for (int i = 0; i < n; i++) {
            int bit = 1 << item(row, i) / 2 & TURNING;
            if (bit != 0 && (next & bit) != 0 != (item(row, i) % 2 == 1)) {
                return i;
            }
            next ^= bit;
        }
        return n;
    }
}
