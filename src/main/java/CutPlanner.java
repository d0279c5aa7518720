import java.util.Arrays;

/**
 * Plans over facts that are true or not and actions with costs: what a state can come to,
 * the cheapest way from it to a goal, and bounds from below on what that must cost.
 *
 * A set of facts (a state, the goal, what an action needs) is held as the sum of 2^fact.
 */
public final class CutPlanner {
    public static final int NONE = -1;

    private static final int MOST_FACTS = 10;
    private static final int MOST_ACTIONS = 12;
    private static final int MOST_STATES = 1024;
    private static final int MOST_DRAFTED = 24;
    private static final int DEAREST = 9;

    /** No best plan comes twice to one state, so it has one action less than there are states. */
    private static final int MOST_STEPS = MOST_STATES - 1;

    /** Stands for NONE among levels and weights: above all of them, and ten of it still fit an int. */
    private static final int FAR = 1000000;

    /** The base of an action that needs nothing: a number behind those of all facts. */
    private static final int START = MOST_FACTS;

    private static final int NEEDS = 0;
    private static final int ADDS = 1;
    private static final int DROPS = 2;
    private static final int KINDS = 3;

    private final Task task;
    private final Search search;
    private final Row best;
    private final Row drafted;
    private final Levels levels;
    private final Cuts cutting;
    private int state;

    public CutPlanner() {
        task = new Task();
        search = new Search(task);
        best = new Row(MOST_STEPS);
        drafted = new Row(MOST_DRAFTED);
        levels = new Levels(task);
        cutting = new Cuts(task, levels);
        state = 0;
    }

    public int fact(boolean first, boolean goal) throws IllegalStateException {
        if (task.facts >= MOST_FACTS) {
            throw new IllegalStateException("no room for another fact");
        }
        int number = task.newFact(first, goal);
        startAnew();
        return number;
    }

    public int action(int cost) throws IllegalArgumentException, IllegalStateException {
        if (cost < 1 || cost > DEAREST) {
            throw new IllegalArgumentException("a cost is 1 to 9");
        }
        if (task.actions >= MOST_ACTIONS) {
            throw new IllegalStateException("no room for another action");
        }
        int number = task.newAction(cost);
        startAnew();
        return number;
    }

    public void link(int kind, int action, int fact)
            throws IndexOutOfBoundsException, IllegalArgumentException, IllegalStateException {
        refuseUnknownAction(action);
        refuseUnknownFact(fact);
        if (kind < 0 || kind >= KINDS) {
            throw new IllegalArgumentException("a kind is 0, 1 or 2");
        }
        if (has(task.links[kind][action], fact)) {
            throw new IllegalStateException("linked already");
        }
        task.links[kind][action] |= 1 << fact;
        startAnew();
    }

    public void reset() {
        state = task.first;
    }

    public boolean holds(int fact) throws IndexOutOfBoundsException {
        refuseUnknownFact(fact);
        return has(state, fact);
    }

    public boolean applicable(int action) throws IndexOutOfBoundsException {
        refuseUnknownAction(action);
        return task.allows(action, state);
    }

    public boolean apply(int action) throws IndexOutOfBoundsException, IllegalStateException {
        refuseUnknownAction(action);
        if (!task.allows(action, state)) {
            throw new IllegalStateException("not applicable");
        }
        state = task.after(action, state);
        return task.isMet(state);
    }

    public int plan() {
        search.explore(state);
        best.empty();
        int least = search.leastToMet();
        if (least != NONE) {
            search.writeBest(state, least, best);
        }
        return least;
    }

    public int length() {
        return best.size;
    }

    public int step(int k) {
        return k < 0 || k >= best.size ? NONE : best.items[k];
    }

    public int states() {
        search.explore(state);
        return search.settled;
    }

    public boolean together(int one, int two) throws IndexOutOfBoundsException {
        refuseUnknownFact(one);
        refuseUnknownFact(two);
        search.explore(state);
        return search.cameTo(1 << one | 1 << two);
    }

    public int level(int fact, boolean weight) throws IndexOutOfBoundsException {
        refuseUnknownFact(fact);
        levels.measure(state, task.costs, weight, 0);
        return orNone(levels.heights[fact]);
    }

    public int bound(boolean weight) {
        levels.measure(state, task.costs, weight, 0);
        return orNone(levels.joined(task.goal, weight));
    }

    public int cuts() {
        cutting.collect(state);
        return cutting.total;
    }

    public int cut(int k) {
        cutting.collect(state);
        return k < 0 || k >= cutting.count ? 0 : cutting.found[k];
    }

    public boolean landmark(int fact) throws IndexOutOfBoundsException {
        refuseUnknownFact(fact);
        if (has(state, fact)) {
            return true;
        }
        levels.measure(state, task.costs, false, task.addersOf(fact));
        return levels.joined(task.goal, false) == FAR;
    }

    public int draft(int action) throws IndexOutOfBoundsException, IllegalStateException {
        refuseUnknownAction(action);
        if (drafted.size >= MOST_DRAFTED) {
            throw new IllegalStateException("the draft is full");
        }
        drafted.append(action);
        return drafted.size;
    }

    public void wipe() {
        drafted.empty();
    }

    public int check() {
        int now = state;
        for (int k = 0; k < drafted.size; k++) {
            int action = drafted.items[k];
            if (!task.allows(action, now)) {
                return k;
            }
            now = task.after(action, now);
        }
        return task.isMet(now) ? NONE : drafted.size;
    }

    public int cost() {
        int sum = 0;
        for (int k = 0; k < drafted.size; k++) {
            sum += task.costs[drafted.items[k]];
        }
        return sum;
    }

    private void startAnew() {
        drafted.empty();
        state = task.first;
    }

    private void refuseUnknownFact(int fact) {
        if (fact < 0 || fact >= task.facts) {
            throw new IndexOutOfBoundsException("no such fact");
        }
    }

    private void refuseUnknownAction(int action) {
        if (action < 0 || action >= task.actions) {
            throw new IndexOutOfBoundsException("no such action");
        }
    }

    private static int orNone(int height) {
        return height >= FAR ? NONE : height;
    }

    private static boolean has(int set, int member) {
        return (set >> member & 1) != 0;
    }

    private static boolean hasAll(int set, int members) {
        return (set & members) == members;
    }

    /** The facts and actions, the first state and the goal. */
    private static final class Task {
        private final int[] costs = new int[MOST_ACTIONS];
        private final int[][] links = new int[KINDS][MOST_ACTIONS];
        private int facts;
        private int actions;
        private int first;
        private int goal;

        int newFact(boolean isFirst, boolean isGoal) {
            int number = facts;
            if (isFirst) {
                first |= 1 << number;
            }
            if (isGoal) {
                goal |= 1 << number;
            }
            facts++;
            return number;
        }

        int newAction(int price) {
            int number = actions;
            costs[number] = price;
            actions++;
            return number;
        }

        boolean allows(int action, int in) {
            return hasAll(in, links[NEEDS][action]);
        }

        int after(int action, int in) {
            return in & ~links[DROPS][action] | links[ADDS][action];
        }

        boolean isMet(int in) {
            return hasAll(in, goal);
        }

        /** The actions that add a fact, as the sum of 2^action. */
        int addersOf(int fact) {
            int adders = 0;
            for (int action = 0; action < actions; action++) {
                if (has(links[ADDS][action], fact)) {
                    adders |= 1 << action;
                }
            }
            return adders;
        }
    }

    /** A row of actions of bounded length. */
    private static final class Row {
        private final int[] items;
        private int size;

        Row(int most) {
            items = new int[most];
        }

        void empty() {
            size = 0;
        }

        void append(int action) {
            if (size < items.length) {
                items[size] = action;
                size++;
            }
        }
    }

    /** All states that come from one state, in the order of the least cost to come to them. */
    private static final class Search {
        /** The cost of a dearest way that comes to no state twice. */
        private static final int MOST_SPENT = DEAREST * MOST_STEPS;

        /** The costs 0 to 9 below the one at hand, all that one action can span. */
        private static final int SPAN = DEAREST + 1;

        /** Stands in onward for the end of a best plan. */
        private static final int ARRIVED = -2;

        private final Task task;
        private final int[] order = new int[MOST_STATES];
        private final int[] spent = new int[MOST_STATES];
        private final int[] onward = new int[MOST_STATES];
        private final int[] begins = new int[SPAN];
        private int settled;

        Search(Task task) {
            this.task = task;
            Arrays.fill(spent, NONE);
        }

        /**
         * Goes up cost by cost. An action costs 1 or more, so the states of one cost all come by
         * one action from states of lesser costs, and the first cost found for a state is its least.
         */
        void explore(int from) {
            forget();
            begins[0] = 0;
            settle(from, 0);
            for (int now = 1; now <= MOST_SPENT && now <= lastSpent() + DEAREST; now++) {
                begins[now % SPAN] = settled;
                for (int action = 0; action < task.actions; action++) {
                    int before = now - task.costs[action];
                    if (before >= 0) {
                        spread(action, before, now);
                    }
                }
            }
        }

        /** Whether some state that was come to has all these facts. */
        boolean cameTo(int facts) {
            for (int i = 0; i < settled; i++) {
                if (hasAll(order[i], facts)) {
                    return true;
                }
            }
            return false;
        }

        int leastToMet() {
            for (int i = 0; i < settled; i++) {
                if (task.isMet(order[i])) {
                    return spent[order[i]];
                }
            }
            return NONE;
        }

        /** Writes the best plan, which costs least, from the state that was explored. */
        void writeBest(int from, int least, Row plan) {
            for (int i = settled - 1; i >= 0; i--) {
                int at = order[i];
                boolean end = spent[at] == least && task.isMet(at);
                onward[at] = end ? ARRIVED : leastOnward(at);
            }
            int now = from;
            for (int k = 0; k < MOST_STEPS && onward[now] >= 0; k++) {
                plan.append(onward[now]);
                now = task.after(onward[now], now);
            }
        }

        /**
         * The least action with which a cheapest way to an end goes on from a state, or NONE.
         * What is dearer to come to has its answer already, as the order is gone over backwards.
         */
        private int leastOnward(int at) {
            for (int action = 0; action < task.actions; action++) {
                if (task.allows(action, at)) {
                    int next = task.after(action, at);
                    if (spent[next] == spent[at] + task.costs[action] && onward[next] != NONE) {
                        return action;
                    }
                }
            }
            return NONE;
        }

        private void forget() {
            for (int i = 0; i < settled; i++) {
                spent[order[i]] = NONE;
            }
            settled = 0;
        }

        private int lastSpent() {
            return settled == 0 ? 0 : spent[order[settled - 1]];
        }

        /** Applies an action to all states of the cost before; what is new comes to the cost now. */
        private void spread(int action, int before, int now) {
            int end = begins[(before + 1) % SPAN];
            for (int i = begins[before % SPAN]; i < end; i++) {
                if (task.allows(action, order[i])) {
                    settle(task.after(action, order[i]), now);
                }
            }
        }

        private void settle(int reached, int now) {
            if (spent[reached] == NONE) {
                spent[reached] = now;
                order[settled] = reached;
                settled++;
            }
        }
    }

    /** Levels or weights of all facts, by some costs of the actions. */
    private static final class Levels {
        private final Task task;
        private final int[] heights = new int[MOST_FACTS];

        Levels(Task task) {
            this.task = task;
        }

        /**
         * Measures without the barred actions (a sum of 2^action). Lowering from FAR on ends at the
         * greatest solution; each round makes at least one fact's height final.
         */
        void measure(int in, int[] costs, boolean weight, int barred) {
            for (int fact = 0; fact < MOST_FACTS; fact++) {
                heights[fact] = has(in, fact) ? 0 : FAR;
            }
            boolean lowered = true;
            for (int round = 0; round < MOST_FACTS && lowered; round++) {
                lowered = false;
                for (int action = 0; action < task.actions; action++) {
                    if (!has(barred, action)) {
                        int height = costs[action] + joined(task.links[NEEDS][action], weight);
                        lowered |= lower(task.links[ADDS][action], height);
                    }
                }
            }
        }

        /** The sum of the facts' weights, or their greatest level: 0 for no facts, FAR for NONE. */
        int joined(int facts, boolean weight) {
            int all = 0;
            for (int fact = 0; fact < MOST_FACTS; fact++) {
                if (has(facts, fact)) {
                    all = weight ? all + heights[fact] : Math.max(all, heights[fact]);
                }
            }
            return Math.min(all, FAR);
        }

        /** The least of the facts with the greatest level; START for no facts, NONE if that is FAR. */
        int baseOf(int facts) {
            int base = START;
            int greatest = -1;
            for (int fact = 0; fact < MOST_FACTS; fact++) {
                if (has(facts, fact) && heights[fact] > greatest) {
                    base = fact;
                    greatest = heights[fact];
                }
            }
            return greatest >= FAR ? NONE : base;
        }

        private boolean lower(int facts, int height) {
            boolean lowered = false;
            for (int fact = 0; fact < MOST_FACTS; fact++) {
                if (has(facts, fact) && height < heights[fact]) {
                    heights[fact] = height;
                    lowered = true;
                }
            }
            return lowered;
        }
    }

    /** The cuts of a state. */
    private static final class Cuts {
        private final Task task;
        private final Levels levels;
        private final int[] left = new int[MOST_ACTIONS];
        private final int[] bases = new int[MOST_ACTIONS];
        private final int[] found = new int[MOST_ACTIONS];
        private int count;
        private int total;

        Cuts(Task task, Levels levels) {
            this.task = task;
            this.levels = levels;
        }

        /** Each cut brings some action's cost to 0 and has none with cost 0: no more cuts than actions. */
        void collect(int in) {
            System.arraycopy(task.costs, 0, left, 0, MOST_ACTIONS);
            count = 0;
            total = 0;
            int height = goalHeight(in);
            for (int k = 0; k < MOST_ACTIONS && height > 0 && height < FAR; k++) {
                found[k] = nextCut(in);
                count = k + 1;
                total += pay(found[k]);
                height = goalHeight(in);
            }
            if (height >= FAR) {
                total = NONE;
            }
        }

        private int goalHeight(int in) {
            levels.measure(in, left, false, 0);
            return levels.joined(task.goal, false);
        }

        private int nextCut(int in) {
            for (int action = 0; action < task.actions; action++) {
                bases[action] = levels.baseOf(task.links[NEEDS][action]);
            }
            int zone = zoneBefore(1 << levels.baseOf(task.goal));
            int rest = restBehind((in | 1 << START) & ~zone, zone);
            int cut = 0;
            for (int action = 0; action < task.actions; action++) {
                if (isBasedIn(rest, action) && (task.links[ADDS][action] & zone) != 0) {
                    cut |= 1 << action;
                }
            }
            return cut;
        }

        private int zoneBefore(int goalBase) {
            int zone = goalBase;
            int before = 0;
            for (int round = 0; round <= MOST_FACTS && zone != before; round++) {
                before = zone;
                for (int action = 0; action < task.actions; action++) {
                    boolean free = left[action] == 0 && bases[action] != NONE;
                    if (free && (task.links[ADDS][action] & zone) != 0) {
                        zone |= 1 << bases[action];
                    }
                }
            }
            return zone;
        }

        private int restBehind(int start, int zone) {
            int rest = start;
            int before = 0;
            for (int round = 0; round <= MOST_FACTS && rest != before; round++) {
                before = rest;
                for (int action = 0; action < task.actions; action++) {
                    if (isBasedIn(rest, action)) {
                        rest |= task.links[ADDS][action] & ~zone;
                    }
                }
            }
            return rest;
        }

        private boolean isBasedIn(int part, int action) {
            return bases[action] != NONE && has(part, bases[action]);
        }

        /** Takes the cut's price off the costs of its actions; answers the price. */
        private int pay(int cut) {
            int price = DEAREST;
            for (int action = 0; action < task.actions; action++) {
                if (has(cut, action)) {
                    price = Math.min(price, left[action]);
                }
            }
            for (int action = 0; action < task.actions; action++) {
                if (has(cut, action)) {
                    left[action] -= price;
                }
            }
            return price;
        }
    }
}
