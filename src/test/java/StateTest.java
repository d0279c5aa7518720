/** Promises 5 to 8: reset, holds, applicable, apply. */
public final class StateTest {
    private StateTest() {
    }

    public static void main(String[] args) {
        promise5Reset();
        promise6Holds();
        promise7Applicable();
        promise8Apply();
        promise8ApplyRefuses();
        Due.end();
    }

    private static void promise5Reset() {
        CutPlanner p = chain();
        p.plan();
        p.draft(0);
        p.apply(0);
        p.reset();
        Due.is("reset: what was true first", p.holds(0), true);
        Due.is("reset: what was false first", p.holds(1), false);
        Due.is("reset keeps the draft", p.cost(), 2);
        Due.same("reset keeps the plan", Due.foundPlan(p), "0 1 ");
        p.reset();
        Due.is("reset twice", p.holds(0), true);
    }

    private static void promise6Holds() {
        CutPlanner p = chain();
        Due.is("holds(0)", p.holds(0), true);
        Due.is("holds(1)", p.holds(1), false);
        p.apply(0);
        Due.is("holds(0) after", p.holds(0), false);
        Due.is("holds(1) after", p.holds(1), true);
        int[] bad = {-1, 3, 10, 32, Integer.MIN_VALUE, Integer.MAX_VALUE};
        for (int fact : bad) {
            Due.refused("holds(" + fact + ")", p, IndexOutOfBoundsException.class, () -> p.holds(fact));
        }
    }

    private static void promise7Applicable() {
        CutPlanner p = chain();
        Due.newAction(p, 1, "01", "2", "");
        Due.newAction(p, 1, "", "1", "");
        Due.is("needs a true fact", p.applicable(0), true);
        Due.is("needs a false fact", p.applicable(1), false);
        Due.is("needs a true and a false fact", p.applicable(2), false);
        Due.is("needs nothing", p.applicable(3), true);
        p.apply(3);
        Due.is("needs two true facts", p.applicable(2), true);
        p.apply(0);
        Due.is("needs a fact that was dropped", p.applicable(2), false);
        int[] bad = {-1, 4, 12, Integer.MIN_VALUE, Integer.MAX_VALUE};
        for (int action : bad) {
            Due.refused("applicable(" + action + ")", p, IndexOutOfBoundsException.class, () -> p.applicable(action));
        }
    }

    private static void promise8Apply() {
        CutPlanner p = chain();
        Due.is("apply(0): not met", p.apply(0), false);
        Due.is("apply(1): met", p.apply(1), true);
        Due.is("applied: dropped 1", p.holds(1), false);
        Due.is("applied: added 2", p.holds(2), true);
        CutPlanner q = Due.withFacts("bg");
        Due.newAction(q, 1, "", "1", "0");
        Due.newAction(q, 1, "", "0", "0");
        Due.is("met in one of two facts", q.apply(0), false);
        Due.is("drops first, adds after", q.apply(1), true);
        CutPlanner noGoal = Due.withFacts("f");
        Due.newAction(noGoal, 1, "", "", "0");
        Due.is("without a goal each state is met", noGoal.apply(0), true);
        q.reset();
        q.plan();
        q.draft(1);
        q.apply(0);
        Due.is("apply keeps the draft", q.cost(), 1);
        Due.is("apply keeps the plan", q.length(), 2);
    }

    private static void promise8ApplyRefuses() {
        CutPlanner p = chain();
        p.draft(0);
        Due.refused("apply(1), not applicable", p, IllegalStateException.class, () -> p.apply(1));
        int[] bad = {-1, 2, 12, Integer.MIN_VALUE, Integer.MAX_VALUE};
        for (int action : bad) {
            Due.refused("apply(" + action + ")", p, IndexOutOfBoundsException.class, () -> p.apply(action));
        }
    }

    /** Fact 0 is true; action 0 makes 1 of 0, action 1 the goal 2 of 1. */
    private static CutPlanner chain() {
        CutPlanner p = Due.withFacts("f-g");
        Due.newAction(p, 2, "0", "1", "0");
        Due.newAction(p, 3, "1", "2", "1");
        return p;
    }
}
