import java.util.List;
import java.util.Set;
import java.util.TreeSet;

/** Runs of calls on made-up tasks: each answer is the one that Reference gives. */
public final class ReferenceTest {
    private static final int RUNS = 1500;

    private long seed;
    private final CutPlanner planner = new CutPlanner();
    private final Reference due = new Reference();
    private final String name;

    private ReferenceTest(int run) {
        seed = run * 7919L + 17;
        name = "run " + run + ": ";
    }

    public static void main(String[] args) {
        for (int run = 0; run < RUNS; run++) {
            new ReferenceTest(run).go();
        }
        Due.end();
    }

    /** Always the same numbers, so that a fault that was seen once is seen again. */
    private int pick(int below) {
        seed = seed * 6364136223846793005L + 1442695040888963407L;
        return (int) ((seed >>> 33) % below);
    }

    private void go() {
        if (pick(3) == 0) {
            makeLoose();
        } else {
            makeLayered();
        }
        compare();
        int actions = due.costs.size();
        for (int k = 0; k < 4 && actions > 0; k++) {
            move(pick(actions));
            doDraft(pick(actions));
            compareSmall();
        }
        compare();
        changeAfter();
        compareSmall();
        compare();
    }

    /** Anything with anything: often there is no plan. */
    private void makeLoose() {
        int facts = 1 + pick(10);
        int actions = pick(13);
        for (int k = 0; k < facts; k++) {
            addFact(pick(3) == 0, pick(4) == 0);
        }
        int dearest = 1 + pick(9);
        for (int k = 0; k < actions; k++) {
            addAction(1 + pick(dearest));
        }
        int links = actions == 0 ? 0 : pick(actions * 5);
        for (int k = 0; k < links; k++) {
            addLink(pick(8) / 3, pick(actions), pick(facts));
        }
    }

    /** Facts lead to later ones in a hidden order: long ways, many cuts, bases of all kinds. */
    private void makeLayered() {
        int[] facts = shuffled(3 + pick(8));
        int[] actions = shuffled(Math.min(12, facts.length + pick(5)));
        int goals = 1 + pick(3);
        for (int k = 0; k < facts.length; k++) {
            addFact(facts[k] == 0, facts[k] >= facts.length - goals);
        }
        int dearest = 1 + pick(9);
        for (int k = 0; k < actions.length; k++) {
            addAction(1 + pick(dearest));
        }
        int[] places = new int[facts.length];
        for (int k = 0; k < facts.length; k++) {
            places[facts[k]] = k;
        }
        for (int k = 0; k < actions.length; k++) {
            linkLayered(actions[k], 1 + k % (facts.length - 1), places);
        }
    }

    private void linkLayered(int action, int depth, int[] places) {
        addLink(Due.ADDS, action, places[depth]);
        if (pick(4) == 0) {
            addLink(Due.ADDS, action, pick(places.length));
        }
        for (int k = pick(4); k > 0; k--) {
            addLink(Due.NEEDS, action, places[Math.max(0, depth - 1 - pick(3))]);
        }
        if (pick(4) == 0) {
            addLink(Due.DROPS, action, pick(places.length));
        }
    }

    private int[] shuffled(int count) {
        int[] row = new int[count];
        for (int k = 0; k < count; k++) {
            int at = pick(k + 1);
            row[k] = row[at];
            row[at] = k;
        }
        return row;
    }

    private void changeAfter() {
        if (pick(2) == 0) {
            planner.reset();
            due.state = new TreeSet<>(due.first);
        } else if (due.facts < 10) {
            addFact(pick(2) == 0, pick(2) == 0);
        } else if (due.costs.size() < 12) {
            addAction(1 + pick(9));
        }
    }

    private void addFact(boolean first, boolean goal) {
        Due.is(name + "fact", planner.fact(first, goal), due.facts);
        due.fact(first, goal);
    }

    private void addAction(int cost) {
        Due.is(name + "action", planner.action(cost), due.costs.size());
        due.action(cost);
    }

    private void addLink(int kind, int action, int fact) {
        boolean linked = true;
        try {
            planner.link(kind, action, fact);
        } catch (IllegalStateException e) {
            linked = false;
        }
        Due.is(name + "link is new", linked, due.link(kind, action, fact));
    }

    private void move(int action) {
        boolean can = due.applicable(action, due.state);
        Due.is(name + "applicable", planner.applicable(action), can);
        try {
            boolean met = planner.apply(action);
            Due.is(name + "apply is due", true, can);
            due.state = due.after(action, due.state);
            Due.is(name + "apply", met, due.state.containsAll(due.goal));
        } catch (IllegalStateException e) {
            Due.is(name + "apply is refused", true, !can);
        }
    }

    private void doDraft(int action) {
        due.drafted.add(action);
        Due.is(name + "draft", planner.draft(action), due.drafted.size());
    }

    private void compareSmall() {
        Due.is(name + "check", planner.check(), due.check());
        Due.is(name + "cost", planner.cost(), due.draftCost());
        for (int fact = 0; fact < due.facts; fact++) {
            Due.is(name + "holds", planner.holds(fact), due.state.contains(fact));
        }
        Due.is(name + "length", planner.length(), due.found.size());
        for (int k = 0; k < due.found.size(); k++) {
            Due.is(name + "step", planner.step(k), due.found.get(k));
        }
        Due.is(name + "step behind", planner.step(due.found.size()), -1);
    }

    private void compare() {
        Due.is(name + "plan", planner.plan(), due.plan());
        compareSmall();
        compareReached();
        compareLevels();
        compareCuts();
    }

    private void compareReached() {
        Set<Set<Integer>> reached = due.reached();
        Due.is(name + "states", planner.states(), reached.size());
        for (int one = 0; one < due.facts; one++) {
            for (int two = 0; two < due.facts; two++) {
                boolean both = false;
                for (Set<Integer> at : reached) {
                    both |= at.contains(one) && at.contains(two);
                }
                Due.is(name + "together " + one + " " + two, planner.together(one, two), both);
            }
        }
    }

    private void compareLevels() {
        for (int k = 0; k < 2; k++) {
            boolean weight = k == 1;
            Integer[] level = due.levels(due.costs, weight, -1);
            for (int fact = 0; fact < due.facts; fact++) {
                Due.is(name + "level " + fact + weight, planner.level(fact, weight), orNone(level[fact]));
            }
            Due.is(name + "bound " + weight, planner.bound(weight),
                orNone(Reference.joined(due.goal, level, weight)));
        }
        for (int fact = 0; fact < due.facts; fact++) {
            Due.is(name + "landmark " + fact, planner.landmark(fact), due.landmark(fact));
        }
    }

    private static int orNone(Integer level) {
        return level == null ? -1 : level;
    }

    private void compareCuts() {
        List<Set<Integer>> cuts = due.cuts();
        int count = cuts == null ? 0 : cuts.size() - 1;
        Due.is(name + "cuts", planner.cuts(), cuts == null ? -1 : cuts.get(count).iterator().next());
        for (int k = 0; k < count; k++) {
            int sum = 0;
            for (int action : cuts.get(k)) {
                sum += 1 << action;
            }
            Due.is(name + "cut " + k, planner.cut(k), sum);
        }
        Due.is(name + "cut behind", planner.cut(count), 0);
    }
}
