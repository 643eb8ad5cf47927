import java.util.ArrayList;
import java.util.List;
import java.util.Random;

/**
 * Promises 26 to 29: asks of crossings by chance (always the same ones), compared with kinds as Java
 * has them: what is lent stands in an interface, what is told for a kind overrides it.
 */
final class RandomAsksTest {
    private static final int OBJECTS = 300, MOST_CALLS = 512;
    private static final List<Integer> TRACE = new ArrayList<>();
    private static final String[] SORTS = {"", "bridge", "gate", "ford", "plank", "ferry"};
    private static final Class<?>[] KINDS = {Crossing.class, Bridge.class, Gate.class, Ford.class, Plank.class,
        Ferry.class};

    /** Number, one end, steps. */
    record Told(int number, int a, int steps) {
    }

    interface Crossing {
        Told told();

        default int size() {
            TRACE.add(10);
            return told().steps();
        }

        default int mark() {
            TRACE.add(20);
            return told().number();
        }
    }

    static class Bridge implements Crossing {
        final Told told;

        Bridge(Told told) {
            this.told = told;
        }

        public Told told() {
            return told;
        }

        public int size() {
            TRACE.add(11);
            return Crossing.super.size() + mark();
        }

        public int mark() {
            TRACE.add(21);
            return Crossing.super.mark() + told.a();
        }
    }

    static class Gate extends Bridge {
        Gate(Told told) {
            super(told);
        }

        public int size() {
            TRACE.add(12);
            return -super.size();
        }

        public int mark() {
            TRACE.add(22);
            return super.mark() - 1000;
        }
    }

    static class Ford implements Crossing {
        final Told told;

        Ford(Told told) {
            this.told = told;
        }

        public Told told() {
            return told;
        }

        public int size() {
            TRACE.add(13);
            return Crossing.super.size() - 100;
        }

        public int mark() {
            TRACE.add(23);
            return Crossing.super.mark() - size();
        }
    }

    static class Plank extends Ford {
        Plank(Told told) {
            super(told);
        }

        public int size() {
            TRACE.add(14);
            return 2 * super.size();
        }
    }

    static class Ferry extends Ford {
        Ferry(Told told) {
            super(told);
        }

        public int mark() {
            TRACE.add(24);
            return 2 * super.mark();
        }
    }

    private static Crossing make(int kind, Told told) {
        return switch (kind) {
            case 1 -> new Bridge(told);
            case 2 -> new Gate(told);
            case 3 -> new Ford(told);
            case 4 -> new Plank(told);
            default -> new Ferry(told);
        };
    }

    public static void main(String[] args) {
        for (int object = 0; object < OBJECTS; object++) {
            play(new Random(object), "object " + object);
        }
        Due.end();
    }

    private static void play(Random random, String name) {
        StringBuilder text = new StringBuilder();
        List<Crossing> crossings = new ArrayList<>();
        int[] kinds = new int[1 + random.nextInt(6)];
        for (int c = 0; c < kinds.length; c++) {
            kinds[c] = 1 + random.nextInt(5);
            Told told = new Told(c, random.nextInt(6), 1 + random.nextInt(9));
            crossings.add(make(kinds[c], told));
            text.append("crossing ").append(SORTS[kinds[c]]).append(' ').append(told.a()).append(' ')
                .append((told.a() + 1 + random.nextInt(5)) % 6).append(' ').append(told.steps()).append(';');
        }
        LadenEmpty x = Due.told(text.toString());
        int calls = 1 + (text.length() + 7) / 8;
        for (int c = 0; c < kinds.length; c++) {
            calls += kindsOf(x, name, c, kinds[c], crossings.get(c));
        }
        while (calls < MOST_CALLS - 20) {
            int c = random.nextInt(kinds.length);
            calls += ask(x, name + ", a " + SORTS[kinds[c]], c, random.nextInt(2), crossings.get(c));
        }
    }

    private static int kindsOf(LadenEmpty x, String name, int c, int told, Crossing crossing) {
        Due.due(name + ", 26: kind(" + c + ")", x.kind(c), told);
        for (int kind = 0; kind < 6; kind++) {
            boolean is = KINDS[kind].isInstance(crossing);
            Due.due(name + ", 27: as(" + c + ", " + kind + ")", x.as(c, kind), is ? c : Due.KIND);
            Due.due(name + ", 31: status() behind it", x.status(), is ? 0 : 3);
        }
        return 13;
    }

    private static int ask(LadenEmpty x, String name, int c, int what, Crossing crossing) {
        TRACE.clear();
        int want = what == 0 ? crossing.size() : crossing.mark();
        Due.due(name + ", 28: ask(" + c + ", " + what + ")", x.ask(c, what), want);
        for (int i = -1; i < 17; i++) {
            int body = i >= 0 && i < TRACE.size() ? TRACE.get(i) : Due.NONE;
            Due.due(name + ", 29: trace(" + i + ")", x.trace(i), body);
        }
        return 19;
    }
}
