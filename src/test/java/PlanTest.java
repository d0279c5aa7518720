/** Promises 9 to 13: plan, length, step, states, together. */
public final class PlanTest {
    private PlanTest() {
    }

    public static void main(String[] args) {
        promise9Plan();
        promise9OfEqualPlansTheLesserOne();
        promise9Longest();
        promise10Length();
        promise11Step();
        promise12States();
        promise13Together();
        Due.end();
    }

    private static void promise9Plan() {
        CutPlanner p = Due.withFacts("f-g");
        Due.newAction(p, 9, "0", "2", "");
        Due.newAction(p, 4, "0", "1", "0");
        Due.newAction(p, 4, "1", "2", "");
        Due.is("two cheap ones before one dear one", p.plan(), 8);
        Due.same("two cheap ones before one dear one", Due.foundPlan(p), "1 2 ");
        p.apply(1);
        Due.is("plan from the state at hand", p.plan(), 4);
        p.apply(2);
        Due.is("plan when it is met", p.plan(), 0);
        Due.is("plan when it is met: length", p.length(), 0);
        Due.is("plan leaves the state at hand", p.holds(2), true);

        CutPlanner dropped = Due.withFacts("fgg");
        Due.newAction(dropped, 1, "0", "1", "02");
        Due.newAction(dropped, 1, "0", "2", "0");
        Due.is("one goal only", dropped.plan(), CutPlanner.NONE);
        Due.newAction(dropped, 7, "", "0", "");
        Due.is("dropped fact made again", dropped.plan(), 9);
        Due.same("dropped fact made again", Due.foundPlan(dropped), "0 2 1 ");
    }

    private static void promise9OfEqualPlansTheLesserOne() {
        CutPlanner p = Due.withFacts("gg--");
        Due.newAction(p, 2, "", "1", "");
        Due.newAction(p, 2, "", "0", "");
        Due.newAction(p, 4, "", "01", "");
        Due.is("three plans of one cost", p.plan(), 4);
        Due.same("three plans of one cost", Due.foundPlan(p), "0 1 ");

        CutPlanner longer = Due.withFacts("g--");
        Due.newAction(longer, 1, "", "1", "");
        Due.newAction(longer, 3, "", "0", "");
        Due.newAction(longer, 2, "1", "0", "");
        Due.is("the longer one of equal cost", longer.plan(), 3);
        Due.same("the longer one of equal cost", Due.foundPlan(longer), "0 2 ");

        CutPlanner shorter = Due.withFacts("g--");
        Due.newAction(shorter, 3, "", "0", "");
        Due.newAction(shorter, 1, "", "1", "");
        Due.newAction(shorter, 2, "1", "0", "");
        Due.is("the shorter one of equal cost", shorter.plan(), 3);
        Due.same("the shorter one of equal cost", Due.foundPlan(shorter), "0 ");

        CutPlanner lateEnds = Due.withFacts("--g-");
        Due.newAction(lateEnds, 1, "", "3", "");
        Due.newAction(lateEnds, 1, "", "1", "");
        Due.newAction(lateEnds, 1, "1", "2", "");
        Due.is("a lesser beginning that is too dear", lateEnds.plan(), 2);
        Due.same("a lesser beginning that is too dear", Due.foundPlan(lateEnds), "1 2 ");
    }

    /** Ten facts as the digits of a number that only grows by one: no plan can be longer. */
    private static CutPlanner counter(int cost) {
        CutPlanner p = Due.withFacts("gggggggggg");
        for (int k = 0; k < 10; k++) {
            Due.newAction(p, cost, "0123456789".substring(0, k), "" + k, "0123456789".substring(0, k));
        }
        return p;
    }

    private static void promise9Longest() {
        CutPlanner p = counter(9);
        Due.is("counter: plan", p.plan(), 9 * 1023);
        Due.is("counter: length", p.length(), 1023);
        Due.is("counter: states", p.states(), 1024);
        for (int k = 0; k < 1023; k++) {
            Due.is("counter: step " + k, p.step(k), Integer.numberOfTrailingZeros(k + 1));
        }
        Due.is("counter: step 1023", p.step(1023), CutPlanner.NONE);
        p.apply(0);
        Due.is("counter: plan after one", p.plan(), 9 * 1022);
        Due.is("counter of ones: plan", counter(1).plan(), 1023);
    }

    private static void promise10Length() {
        CutPlanner p = Due.withFacts("f-g");
        Due.is("nothing found yet", p.length(), 0);
        Due.newAction(p, 1, "0", "1", "0");
        Due.newAction(p, 1, "1", "2", "");
        p.plan();
        Due.is("length of two", p.length(), 2);
        p.apply(0);
        Due.is("length stays", p.length(), 2);
        p.plan();
        Due.is("length of one", p.length(), 1);
        p.fact(false, true);
        Due.is("length stays after a fact", p.length(), 1);
        p.plan();
        Due.is("length, no plan", p.length(), 0);
    }

    private static void promise11Step() {
        CutPlanner p = Due.withFacts("f-g");
        Due.newAction(p, 1, "0", "1", "0");
        Due.newAction(p, 1, "1", "2", "");
        Due.is("step before a plan", p.step(0), CutPlanner.NONE);
        p.plan();
        p.apply(0);
        p.action(1);
        p.link(Due.ADDS, 2, 2);
        Due.is("step(0) as found", p.step(0), 0);
        Due.is("step(1) as found", p.step(1), 1);
        int[] none = {-1, 2, 1023, 1024, Integer.MIN_VALUE, Integer.MAX_VALUE};
        for (int k : none) {
            Due.is("step(" + k + ")", p.step(k), CutPlanner.NONE);
        }
        p.plan();
        Due.is("step(0) of the new plan", p.step(0), 2);
        Due.is("step(1) of the new plan", p.step(1), CutPlanner.NONE);
        p.fact(false, true);
        p.plan();
        Due.is("step(0), no plan", p.step(0), CutPlanner.NONE);
    }

    private static void promise12States() {
        CutPlanner p = Due.withFacts("f--");
        Due.is("no actions", p.states(), 1);
        Due.newAction(p, 1, "0", "1", "0");
        Due.newAction(p, 9, "1", "0", "1");
        Due.is("there and back", p.states(), 2);
        Due.newAction(p, 5, "1", "2", "1");
        Due.is("no way back", p.states(), 3);
        p.apply(0);
        Due.is("from the middle", p.states(), 3);
        p.apply(2);
        Due.is("from the end", p.states(), 1);
        Due.is("states leaves the state at hand", p.holds(2), true);

        CutPlanner goal = Due.withFacts("g-");
        Due.newAction(goal, 1, "", "0", "");
        Due.newAction(goal, 9, "0", "1", "");
        Due.is("states behind one that is met", goal.states(), 3);

        CutPlanner free = Due.withFacts("----------");
        for (int k = 0; k < 10; k++) {
            Due.newAction(free, 1 + k % 9, "", "" + k, "");
        }
        Due.is("all states", free.states(), 1024);
        Due.is("all states again", free.states(), 1024);
    }

    private static void promise13Together() {
        CutPlanner p = Due.withFacts("f--");
        Due.newAction(p, 1, "0", "1", "0");
        Due.newAction(p, 9, "1", "02", "1");
        Due.is("0 with itself", p.together(0, 0), true);
        Due.is("2 with itself, later", p.together(2, 2), true);
        Due.is("0 and 1", p.together(0, 1), false);
        Due.is("1 and 0", p.together(1, 0), false);
        Due.is("0 and 2", p.together(0, 2), true);
        Due.is("1 and 2", p.together(1, 2), true);
        Due.is("together leaves the state at hand", p.holds(2), false);
        CutPlanner q = Due.withFacts("f-");
        Due.newAction(q, 1, "", "1", "0");
        Due.is("never both", q.together(0, 1), false);
        q.apply(0);
        Due.is("true no more", q.together(0, 0), false);
        int[] bad = {-1, 2, 10, 32, Integer.MIN_VALUE, Integer.MAX_VALUE};
        for (int fact : bad) {
            Due.refused("together(0, " + fact + ")", q, IndexOutOfBoundsException.class, () -> q.together(0, fact));
            Due.refused("together(" + fact + ", 1)", q, IndexOutOfBoundsException.class, () -> q.together(fact, 1));
            Due.refused("together(" + fact + ", same)", q, IndexOutOfBoundsException.class,
                () -> q.together(fact, fact));
        }
    }
}
