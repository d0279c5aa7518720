/** Promises 19 to 22: draft, wipe, check, cost. */
public final class DraftTest {
    private DraftTest() {
    }

    public static void main(String[] args) {
        promise19Draft();
        promise20Wipe();
        promise21Check();
        promise22Cost();
        Due.end();
    }

    private static void promise19Draft() {
        CutPlanner p = chain();
        int[] bad = {-1, 2, 12, Integer.MIN_VALUE, Integer.MAX_VALUE};
        for (int action : bad) {
            Due.refused("draft(" + action + ")", p, IndexOutOfBoundsException.class, () -> p.draft(action));
        }
        for (int k = 1; k <= 24; k++) {
            Due.is("draft, place " + k, p.draft(k % 2), k);
        }
        Due.refused("a 25th action", p, IllegalStateException.class, () -> p.draft(0));
        Due.refused("a 25th action that is none", p, IndexOutOfBoundsException.class, () -> p.draft(2));
        Due.refused("a 25th action that is none", p, IndexOutOfBoundsException.class, () -> p.draft(-1));
        Due.is("drafting leaves the state at hand", p.holds(0), true);
    }

    private static void promise20Wipe() {
        CutPlanner p = chain();
        p.plan();
        p.apply(0);
        p.draft(0);
        p.draft(1);
        p.wipe();
        Due.is("wiped: cost", p.cost(), 0);
        Due.is("wiped: check", p.check(), 0);
        Due.is("wipe leaves the state at hand", p.holds(1), true);
        Due.is("wipe leaves the plan", p.length(), 2);
        Due.is("wiped: the next is the first", p.draft(1), 1);
        p.wipe();
        p.wipe();
        Due.is("wiped twice", p.draft(0), 1);
    }

    private static void promise21Check() {
        CutPlanner p = chain();
        Due.is("empty, not met", p.check(), 0);
        p.draft(0);
        Due.is("all applicable, not met", p.check(), 1);
        p.draft(1);
        Due.is("a plan", p.check(), CutPlanner.NONE);
        Due.is("check leaves the state at hand", p.holds(0), true);
        p.draft(0);
        Due.is("third is not applicable", p.check(), 2);
        p.draft(0);
        Due.is("the first that is not applicable", p.check(), 2);
        p.apply(0);
        Due.is("from the state at hand", p.check(), 0);
        p.wipe();
        p.draft(1);
        Due.is("a plan from the state at hand", p.check(), CutPlanner.NONE);
        p.apply(1);
        p.wipe();
        Due.is("empty, met", p.check(), CutPlanner.NONE);

        CutPlanner through = Due.withFacts("g");
        Due.newAction(through, 1, "", "0", "");
        Due.newAction(through, 1, "", "", "0");
        through.draft(0);
        through.draft(1);
        Due.is("met on the way, not at the end", through.check(), 2);
        through.draft(1);
        through.draft(0);
        Due.is("not the best plan, but one", through.check(), CutPlanner.NONE);
    }

    private static void promise22Cost() {
        CutPlanner p = chain();
        Due.is("empty: cost", p.cost(), 0);
        p.draft(1);
        Due.is("not applicable, but counted", p.cost(), 9);
        p.draft(0);
        p.draft(1);
        Due.is("three: cost", p.cost(), 20);
        for (int k = 3; k < 24; k++) {
            p.draft(1);
        }
        Due.is("full: cost", p.cost(), 2 + 23 * 9);
    }

    /** Fact 0 is true; action 0 (2) makes 1 of 0, action 1 (9) the goal 2 of 1. */
    private static CutPlanner chain() {
        CutPlanner p = Due.withFacts("f-g");
        Due.newAction(p, 2, "0", "1", "0");
        Due.newAction(p, 9, "1", "2", "1");
        return p;
    }
}
