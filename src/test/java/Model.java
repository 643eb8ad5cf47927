import java.util.ArrayList;
import java.util.HashMap;
import java.util.List;
import java.util.Map;
import java.util.PriorityQueue;
import java.util.TreeSet;

/**
 * The LAND once more, told another way, to be compared with: sets are sets, what is foretold is
 * looked for by trying one step after another, walks are tried from each set there is.
 */
final class Model {
    static final int NONE = Due.NONE, BAD = Due.BAD, STATE = Due.STATE;
    static final List<String> SORTS = List.of("", "bridge", "gate", "ford", "plank", "ferry");

    record Way(String sort, int a, int b, int steps) {
        boolean turns() {
            return sort.equals("bridge") || sort.equals("gate");
        }

        int from(int town) {
            return town == a ? b : town == b ? a : NONE;
        }
    }

    /** One carrier underway: next holds bridges of his own, and gates. */
    record Spot(int town, boolean laden, int lies, TreeSet<Integer> next) {
    }

    record Reached(int steps, Spot spot) {
    }

    final List<Way> ways = new ArrayList<>();
    final List<Integer> goals = new ArrayList<>();
    int[] town;
    int[] has;
    List<TreeSet<Integer>> next = new ArrayList<>();
    int[] lies;
    TreeSet<Integer> down = new TreeSet<>();
    TreeSet<Integer> gates = new TreeSet<>();
    int gone;
    List<Model> past = new ArrayList<>();

    Model(List<Way> ways, int[][] carriers, int[][] loads) {
        this.ways.addAll(ways);
        town = new int[carriers.length];
        has = new int[carriers.length];
        for (int c = 0; c < carriers.length; c++) {
            town[c] = carriers[c][0];
            has[c] = NONE;
            TreeSet<Integer> his = new TreeSet<>();
            for (int x = 0; x < ways.size(); x++) {
                if ((carriers[c][1] >> x & 1) == 1 && ways.get(x).sort().equals("bridge")) {
                    his.add(x);
                }
            }
            next.add(his);
        }
        lies = new int[loads.length];
        for (int l = 0; l < loads.length; l++) {
            lies[l] = loads[l][0];
            goals.add(loads[l][1]);
        }
    }

    Model copy() {
        Model m = new Model(ways, new int[0][], new int[0][]);
        m.goals.addAll(goals);
        m.stand(this);
        return m;
    }

    private void stand(Model other) {
        town = other.town.clone();
        has = other.has.clone();
        lies = other.lies.clone();
        next = new ArrayList<>();
        for (TreeSet<Integer> one : other.next) {
            next.add(new TreeSet<>(one));
        }
        down = new TreeSet<>(other.down);
        gates = new TreeSet<>(other.gates);
        gone = other.gone;
    }

    private void act() {
        past.add(copy());
        if (past.size() > 24) {
            past.remove(0);
        }
    }

    static int bits(Iterable<Integer> set) {
        int bits = 0;
        for (int x : set) {
            bits |= 1 << x;
        }
        return bits;
    }

    private static void turn(TreeSet<Integer> set, int x) {
        if (!set.remove(x)) {
            set.add(x);
        }
    }

    private boolean isCarrier(int c) {
        return c >= 0 && c < town.length;
    }

    private boolean isLoad(int l) {
        return l >= 0 && l < lies.length;
    }

    private boolean isWay(int x) {
        return x >= 0 && x < ways.size();
    }

    private TreeSet<Integer> nextOf(int c) {
        TreeSet<Integer> all = new TreeSet<>(next.get(c));
        all.addAll(gates);
        return all;
    }

    private boolean may(Spot s, int x) {
        Way way = ways.get(x);
        if (down.contains(x) || way.from(s.town()) == NONE) {
            return false;
        }
        return way.sort().equals("ford") || way.sort().equals("plank") && !s.laden()
            || way.sort().equals("ferry") && s.laden() || way.turns() && s.next().contains(x) == s.laden();
    }

    private Spot spot(int c) {
        return new Spot(town[c], has[c] != NONE, NONE, nextOf(c));
    }

    int go(int c, int x) {
        if (!isCarrier(c) || !isWay(x)) {
            return BAD;
        }
        if (!may(spot(c), x)) {
            return STATE;
        }
        act();
        town[c] = ways.get(x).from(town[c]);
        gone += ways.get(x).steps();
        if (ways.get(x).turns()) {
            turn(ways.get(x).sort().equals("gate") ? gates : next.get(c), x);
        }
        return town[c];
    }

    int take(int c, int l) {
        if (!isCarrier(c) || !isLoad(l)) {
            return BAD;
        }
        if (has[c] != NONE || lies[l] != town[c]) {
            return STATE;
        }
        act();
        has[c] = l;
        lies[l] = NONE;
        return l;
    }

    int lay(int c) {
        if (!isCarrier(c)) {
            return BAD;
        }
        if (has[c] == NONE) {
            return STATE;
        }
        act();
        int l = has[c];
        lies[l] = town[c];
        has[c] = NONE;
        return l;
    }

    int hand(int c, int to) {
        if (!isCarrier(c) || !isCarrier(to) || c == to) {
            return BAD;
        }
        if (has[c] == NONE || has[to] != NONE || town[c] != town[to]) {
            return STATE;
        }
        act();
        has[to] = has[c];
        has[c] = NONE;
        return has[to];
    }

    int feast() {
        act();
        for (int x = 0; x < ways.size(); x++) {
            if (ways.get(x).sort().equals("gate")) {
                turn(gates, x);
            } else if (ways.get(x).turns()) {
                for (TreeSet<Integer> one : next) {
                    turn(one, x);
                }
            }
        }
        return 1;
    }

    int put(int x, int is) {
        if (!isWay(x) || is < 0 || is > 1) {
            return BAD;
        }
        int was = down.contains(x) ? 0 : 1;
        act();
        if (is == 1) {
            down.remove(x);
        } else {
            down.add(x);
        }
        return was;
    }

    int undo() {
        if (past.isEmpty()) {
            return STATE;
        }
        stand(past.remove(past.size() - 1));
        return past.size();
    }

    int carrier(int c, int what) {
        if (!isCarrier(c) || what < 0 || what > 3) {
            return BAD;
        }
        TreeSet<Integer> over = new TreeSet<>();
        for (int x = 0; x < ways.size(); x++) {
            if (may(spot(c), x)) {
                over.add(x);
            }
        }
        return List.of(town[c], has[c], bits(next.get(c)), bits(over)).get(what);
    }

    private int who(int l) {
        for (int c = 0; c < has.length; c++) {
            if (has[c] == l) {
                return c;
            }
        }
        return NONE;
    }

    int load(int l, int what) {
        if (!isLoad(l) || what < 0 || what > 2) {
            return BAD;
        }
        return List.of(lies[l], goals.get(l), who(l)).get(what);
    }

    interface Wanted {
        boolean is(Spot s);
    }

    /** takes: 'n' nothing, 'l' the load that lies, 's' stones; what is not in use is not gone over. */
    private int search(Spot start, char takes, boolean overGates, Wanted wanted) {
        Map<Spot, Integer> least = new HashMap<>();
        PriorityQueue<Reached> queue = new PriorityQueue<>((p, q) -> p.steps() - q.steps());
        queue.add(new Reached(0, start));
        least.put(start, 0);
        while (!queue.isEmpty()) {
            Reached r = queue.poll();
            Spot s = r.spot();
            if (least.get(s) < r.steps()) {
                continue;
            }
            if (wanted.is(s)) {
                return r.steps();
            }
            List<Reached> on = new ArrayList<>();
            if (takes == 'l' && s.laden()) {
                on.add(new Reached(0, new Spot(s.town(), false, s.town(), s.next())));
            } else if (takes == 'l' && s.lies() == s.town()) {
                on.add(new Reached(0, new Spot(s.town(), true, NONE, s.next())));
            } else if (takes == 's') {
                on.add(new Reached(0, new Spot(s.town(), !s.laden(), NONE, s.next())));
            }
            for (int x = 0; x < ways.size(); x++) {
                if (may(s, x) && (overGates || !ways.get(x).sort().equals("gate"))) {
                    TreeSet<Integer> then = new TreeSet<>(s.next());
                    if (ways.get(x).turns()) {
                        turn(then, x);
                    }
                    on.add(new Reached(ways.get(x).steps(), new Spot(ways.get(x).from(s.town()), s.laden(), s.lies(), then)));
                }
            }
            for (Reached o : on) {
                int steps = r.steps() + o.steps();
                if (least.getOrDefault(o.spot(), Integer.MAX_VALUE) > steps) {
                    least.put(o.spot(), steps);
                    queue.add(new Reached(steps, o.spot()));
                }
            }
        }
        return NONE;
    }

    int fewest(int c, int l) {
        if (!isCarrier(c) || !isLoad(l)) {
            return BAD;
        }
        if (has[c] != NONE && has[c] != l || who(l) != NONE && who(l) != c) {
            return STATE;
        }
        Spot start = new Spot(town[c], has[c] != NONE, lies[l], nextOf(c));
        return search(start, 'l', true, s -> s.lies() == goals.get(l));
    }

    int whom(int l) {
        if (!isLoad(l)) {
            return BAD;
        }
        int best = NONE;
        for (int c = town.length - 1; c >= 0; c--) {
            int steps = fewest(c, l);
            if (steps >= 0 && (best == NONE || steps <= fewest(best, l))) {
                best = c;
            }
        }
        return best;
    }

    int off(int c, int goal) {
        if (!isCarrier(c) || goal < 0 || goal > 5) {
            return BAD;
        }
        return search(spot(c), 'n', true, s -> s.town() == goal);
    }

    int reach(int c) {
        if (!isCarrier(c)) {
            return BAD;
        }
        TreeSet<Integer> towns = new TreeSet<>();
        search(spot(c), 'n', true, s -> !towns.add(s.town()) && false);
        return bits(towns);
    }

    int right(int c, int x) {
        if (!isCarrier(c) || !isWay(x) || !ways.get(x).sort().equals("bridge")) {
            return BAD;
        }
        if (has[c] != NONE) {
            return STATE;
        }
        TreeSet<Integer> wanted = nextOf(c);
        turn(wanted, x);
        return search(spot(c), 's', false, s -> s.town() == town[c] && s.next().equals(wanted));
    }

    int walk(int[] items, int n, int what) {
        Map<Integer, Integer> last = new HashMap<>();
        int turning = 0;
        for (int x = 0; x < ways.size(); x++) {
            turning |= ways.get(x).turns() ? 1 << x : 0;
        }
        if (what == 2) {
            for (int i = 0; i < n; i++) {
                int x = items[i] / 2;
                if (ways.get(x).turns() && last.getOrDefault(x, -1) == items[i] % 2) {
                    return i;
                }
                last.put(x, items[i] % 2);
            }
            return NONE;
        }
        int fits = 0;
        int sure = -1;
        for (int set = 0; set < 64; set++) {
            if ((set & ~turning) == 0 && fits(set, items, n)) {
                fits++;
                sure &= set;
            }
        }
        return what == 0 ? fits : fits == 0 ? NONE : sure;
    }

    private boolean fits(int set, int[] items, int n) {
        int at = set;
        for (int i = 0; i < n; i++) {
            int x = items[i] / 2;
            if (ways.get(x).turns()) {
                if ((at >> x & 1) != items[i] % 2) {
                    return false;
                }
                at ^= 1 << x;
            }
        }
        return true;
    }

    int count(int what) {
        switch (what) {
            case 1: return ways.size();
            case 2: return town.length;
            case 3: return lies.length;
            case 4: return past.size();
            case 5: return gone;
            default: return bits(gates);
        }
    }
}
