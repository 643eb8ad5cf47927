import java.util.ArrayList;
import java.util.List;
import java.util.Random;

/** Promises 7, 9 to 25, 30: runs by chance (always the same ones), compared with Model. */
final class RandomRunsTest {
    private static final int RUNS = 1000, ACTS = 60, MOST_CALLS = 512;

    private final Random random;
    private final int run;
    private final LadenEmpty x = new LadenEmpty();
    private final Model[] images = new Model[2];
    private Model model;
    private int calls = 0;

    private RandomRunsTest(int run) {
        this.run = run;
        random = new Random(run);
    }

    public static void main(String[] args) {
        for (int run = 0; run < RUNS; run++) {
            new RandomRunsTest(run).play();
        }
        Due.end();
    }

    private void due(String call, int got, int want) {
        calls++;
        Due.due("run " + run + ", call " + calls + ": " + call, got, want);
    }

    private int upTo(int most) {
        return random.nextInt(most + 1);
    }

    // Mostly the number of one that there is, of n, at times of one that there is not.
    private int oneOf(int n) {
        return n > 0 && upTo(9) > 0 ? upTo(n - 1) : upTo(8) - 1;
    }

    private String blank() {
        return random.nextInt(4) == 0 ? "\n" : "";
    }

    private void tellLand() {
        StringBuilder text = new StringBuilder();
        List<Model.Way> ways = new ArrayList<>();
        boolean manyBridges = random.nextBoolean();
        int towns = 2 + upTo(3);
        int n = 1 + upTo(5);
        for (int i = 0; i < n; i++) {
            String sort = Model.SORTS.get(manyBridges && upTo(2) > 0 ? 1 : 1 + upTo(4));
            int a = upTo(towns);
            int b = (a + 1 + upTo(towns - 1)) % (towns + 1);
            ways.add(new Model.Way(sort, a, b, 1 + upTo(8)));
            text.append("crossing ").append(sort).append(blank()).append(a).append(' ').append(b).append(' ')
                .append(ways.get(i).steps()).append(blank()).append(';');
        }
        int[][] carriers = new int[upTo(6) == 0 ? 0 : 1 + upTo(2)][];
        for (int c = 0; c < carriers.length; c++) {
            carriers[c] = new int[] {upTo(towns), random.nextInt(1 << n)};
            text.append(blank()).append("carrier").append(carriers[c][0]).append(' ').append(carriers[c][1]).append(';');
        }
        int[][] loads = new int[upTo(6) == 0 ? 0 : 1 + upTo(3)][];
        for (int l = 0; l < loads.length; l++) {
            loads[l] = new int[] {upTo(towns), upTo(towns)};
            text.append("load ").append(loads[l][0]).append(blank()).append(' ').append(loads[l][1]).append(" ;");
        }
        Due.feedText(x, text.toString());
        calls += (text.length() + 7) / 8;
        due("land of " + text, x.land(), n);
        model = new Model(ways, carriers, loads);
    }

    private void play() {
        tellLand();
        for (int i = 0; i < ACTS && calls < MOST_CALLS - 110; i++) {
            act();
            look();
        }
        walk();
        foretell();
        Due.due("run " + run + ": more calls than are promised", Math.max(calls, MOST_CALLS), MOST_CALLS);
    }

    private void act() {
        int c = oneOf(model.count(2));
        int to = oneOf(model.count(2));
        int x0 = oneOf(model.count(1));
        int l = oneOf(model.count(3));
        switch (upTo(30)) {
            case 0: due("feast()", x.feast(), model.feast()); break;
            case 1: put(x0, upTo(1)); break;
            case 2: put(x0, 1); break;
            case 3: case 4: undo(); break;
            case 5: case 6: due("hand(" + c + ", " + to + ")", x.hand(c, to), model.hand(c, to)); break;
            case 7: case 8: due("lay(" + c + ")", x.lay(c), model.lay(c)); break;
            case 9: image(); break;
            case 10: restore(); break;
            case 11: foretellOne(c, x0, l); break;
            case 12: case 13: case 14: case 15: case 16:
                due("take(" + c + ", " + l + ")", x.take(c, l), model.take(c, l));
                break;
            case 17: tellLandAtTimes(); break;
            default:
                due("go(" + c + ", " + x0 + ")", x.go(c, x0), model.go(c, x0));
                break;
        }
    }

    private void put(int crossing, int is) {
        due("put(" + crossing + ", " + is + ")", x.put(crossing, is), model.put(crossing, is));
    }

    private void tellLandAtTimes() {
        if (upTo(3) == 0) {
            tellLand();
        }
    }

    private void undo() {
        for (int k = upTo(2); k >= 0; k--) {
            due("undo()", x.undo(), model.undo());
        }
    }

    private void image() {
        int k = upTo(1);
        due("image(" + k + ")", x.image(k), 1);
        images[k] = model.copy();
    }

    private void restore() {
        int k = upTo(1);
        due("restore(" + k + ")", x.restore(k), images[k] == null ? Due.STATE : 1);
        model = images[k] == null ? model : images[k].copy();
    }

    private void look() {
        int c = oneOf(model.count(2));
        int l = oneOf(model.count(3));
        int what = oneOf(4);
        due("carrier(" + c + ", " + what + ")", x.carrier(c, what), model.carrier(c, what));
        due("load(" + l + ", " + what + ")", x.load(l, what), model.load(l, what));
        int counted = 1 + upTo(5);
        due("count(" + counted + ")", x.count(counted), model.count(counted));
    }

    private void foretellOne(int c, int crossing, int l) {
        int town = oneOf(6);
        due("fewest(" + c + ", " + l + ")", x.fewest(c, l), model.fewest(c, l));
        due("whom(" + l + ")", x.whom(l), model.whom(l));
        due("off(" + c + ", " + town + ")", x.off(c, town), model.off(c, town));
        due("reach(" + c + ")", x.reach(c), model.reach(c));
        due("right(" + c + ", " + crossing + ")", x.right(c, crossing), model.right(c, crossing));
    }

    private void walk() {
        int[] items = new int[upTo(6)];
        for (int i = 0; i < items.length; i++) {
            items[i] = random.nextInt(2 * model.count(1));
        }
        Due.row(x, 0, upTo(2), items);
        calls += 1 + items.length;
        for (int what = 0; what < 3; what++) {
            due("walk(0, " + items.length + ", " + what + ")",
                x.walk(0, items.length, what), model.walk(items, items.length, what));
        }
    }

    private void foretell() {
        for (int c = 0; c < 3; c++) {
            due("reach(" + c + ")", x.reach(c), model.reach(c));
            for (int o = 0; o < 6; o++) {
                due("off(" + c + ", " + o + ")", x.off(c, o), model.off(c, o));
                due("right(" + c + ", " + o + ")", x.right(c, o), model.right(c, o));
            }
            for (int l = 0; l < 4; l++) {
                due("fewest(" + c + ", " + l + ")", x.fewest(c, l), model.fewest(c, l));
            }
        }
        for (int l = 0; l < 4; l++) {
            due("whom(" + l + ")", x.whom(l), model.whom(l));
        }
    }
}
