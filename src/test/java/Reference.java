import java.util.ArrayList;
import java.util.HashMap;
import java.util.List;
import java.util.Map;
import java.util.Set;
import java.util.TreeSet;

/**
 * The document written a second time, with sets and lists, as plainly as its words go: what
 * ReferenceTest holds the program against. A level of null stands for NONE.
 */
final class Reference {
    private static final int START = -7;

    final List<Integer> costs = new ArrayList<>();
    final List<List<Set<Integer>>> links = new ArrayList<>();
    final Set<Integer> first = new TreeSet<>();
    final Set<Integer> goal = new TreeSet<>();
    final List<Integer> drafted = new ArrayList<>();
    List<Integer> found = new ArrayList<>();
    Set<Integer> state = new TreeSet<>();
    int facts = 0;

    void fact(boolean isFirst, boolean isGoal) {
        if (isFirst) {
            first.add(facts);
        }
        if (isGoal) {
            goal.add(facts);
        }
        facts++;
        startAnew();
    }

    void action(int cost) {
        costs.add(cost);
        List<Set<Integer>> own = new ArrayList<>();
        for (int kind = 0; kind < 3; kind++) {
            own.add(new TreeSet<>());
        }
        links.add(own);
        startAnew();
    }

    /** Answers false when it is linked already. */
    boolean link(int kind, int action, int fact) {
        if (!links.get(action).get(kind).add(fact)) {
            return false;
        }
        startAnew();
        return true;
    }

    private void startAnew() {
        drafted.clear();
        state = new TreeSet<>(first);
    }

    boolean applicable(int action, Set<Integer> in) {
        return in.containsAll(links.get(action).get(0));
    }

    Set<Integer> after(int action, Set<Integer> in) {
        Set<Integer> next = new TreeSet<>(in);
        next.removeAll(links.get(action).get(2));
        next.addAll(links.get(action).get(1));
        return next;
    }

    private int costOf(List<Integer> row) {
        int sum = 0;
        for (int action : row) {
            sum += costs.get(action);
        }
        return sum;
    }

    private boolean better(List<Integer> one, List<Integer> two) {
        if (two == null || costOf(one) != costOf(two)) {
            return two == null || costOf(one) < costOf(two);
        }
        for (int k = 0; k < Math.min(one.size(), two.size()); k++) {
            if (!one.get(k).equals(two.get(k))) {
                return one.get(k) < two.get(k);
            }
        }
        return false;
    }

    /** The best row of actions to each state that comes from the state at hand. */
    private Map<Set<Integer>, List<Integer>> bestRows() {
        Map<Set<Integer>, List<Integer>> rows = new HashMap<>();
        rows.put(new TreeSet<>(state), new ArrayList<>());
        boolean changed = true;
        while (changed) {
            changed = false;
            for (Set<Integer> at : new ArrayList<>(rows.keySet())) {
                for (int action = 0; action < costs.size(); action++) {
                    if (applicable(action, at)) {
                        Set<Integer> next = after(action, at);
                        List<Integer> row = new ArrayList<>(rows.get(at));
                        row.add(action);
                        if (better(row, rows.get(next))) {
                            rows.put(next, row);
                            changed = true;
                        }
                    }
                }
            }
        }
        return rows;
    }

    int plan() {
        List<Integer> best = null;
        for (Map.Entry<Set<Integer>, List<Integer>> entry : bestRows().entrySet()) {
            if (entry.getKey().containsAll(goal) && better(entry.getValue(), best)) {
                best = entry.getValue();
            }
        }
        found = best == null ? new ArrayList<>() : best;
        return best == null ? -1 : costOf(best);
    }

    Set<Set<Integer>> reached() {
        return bestRows().keySet();
    }

    int check() {
        Set<Integer> now = state;
        for (int k = 0; k < drafted.size(); k++) {
            if (!applicable(drafted.get(k), now)) {
                return k;
            }
            now = after(drafted.get(k), now);
        }
        return now.containsAll(goal) ? -1 : drafted.size();
    }

    int draftCost() {
        return costOf(drafted);
    }

    /** Settles the fact with the least level again and again, so none ever feeds itself. */
    Integer[] levels(List<Integer> by, boolean weight, int without) {
        Integer[] level = new Integer[facts];
        for (int fact : state) {
            level[fact] = 0;
        }
        while (true) {
            int least = -1;
            Integer at = null;
            for (int action = 0; action < by.size(); action++) {
                Integer needed = joined(links.get(action).get(0), level, weight);
                if (needed != null && !links.get(action).get(1).contains(without)) {
                    for (int fact : links.get(action).get(1)) {
                        if (level[fact] == null && (at == null || needed + by.get(action) < at)) {
                            least = fact;
                            at = needed + by.get(action);
                        }
                    }
                }
            }
            if (at == null) {
                return level;
            }
            level[least] = at;
        }
    }

    static Integer joined(Set<Integer> some, Integer[] level, boolean weight) {
        int all = 0;
        for (int fact : some) {
            if (level[fact] == null) {
                return null;
            }
            all = weight ? all + level[fact] : Math.max(all, level[fact]);
        }
        return all;
    }

    boolean landmark(int fact) {
        return state.contains(fact) || joined(goal, levels(costs, false, fact), false) == null;
    }

    private static Integer base(Set<Integer> some, Integer[] level) {
        Integer greatest = joined(some, level, false);
        if (some.isEmpty() || greatest == null) {
            return greatest == null ? null : Integer.valueOf(START);
        }
        for (int fact : some) {
            if (level[fact].equals(greatest)) {
                return fact;
            }
        }
        throw new AssertionError();
    }

    /** The cuts, each as its set of actions; null for NONE. The last place holds the bound alone. */
    List<Set<Integer>> cuts() {
        List<Integer> c = new ArrayList<>(costs);
        List<Set<Integer>> cuts = new ArrayList<>();
        int bound = 0;
        while (true) {
            Integer[] level = levels(c, false, -1);
            Integer height = joined(goal, level, false);
            if (height == null) {
                return null;
            }
            if (height == 0) {
                cuts.add(Set.of(bound));
                return cuts;
            }
            Set<Integer> cut = cutBy(c, level);
            int price = Integer.MAX_VALUE;
            for (int action : cut) {
                price = Math.min(price, c.get(action));
            }
            for (int action : cut) {
                c.set(action, c.get(action) - price);
            }
            bound += price;
            cuts.add(cut);
        }
    }

    private Set<Integer> cutBy(List<Integer> c, Integer[] level) {
        Set<Integer> zone = new TreeSet<>();
        zone.add(base(goal, level));
        for (int round = 0; round < 20; round++) {
            for (int action = 0; action < c.size(); action++) {
                Integer base = base(links.get(action).get(0), level);
                if (base != null && c.get(action) == 0 && meets(links.get(action).get(1), zone)) {
                    zone.add(base);
                }
            }
        }
        Set<Integer> rest = new TreeSet<>(state);
        rest.add(START);
        rest.removeAll(zone);
        for (int round = 0; round < 20; round++) {
            for (int action = 0; action < c.size(); action++) {
                Integer base = base(links.get(action).get(0), level);
                if (base != null && rest.contains(base)) {
                    rest.addAll(links.get(action).get(1));
                    rest.removeAll(zone);
                }
            }
        }
        Set<Integer> cut = new TreeSet<>();
        for (int action = 0; action < c.size(); action++) {
            Integer base = base(links.get(action).get(0), level);
            if (base != null && rest.contains(base) && meets(links.get(action).get(1), zone)) {
                cut.add(action);
            }
        }
        return cut;
    }

    private static boolean meets(Set<Integer> one, Set<Integer> two) {
        for (int fact : one) {
            if (two.contains(fact)) {
                return true;
            }
        }
        return false;
    }
}
