/** Promises 1 to 4: a new object, fact, action, link. */
public final class TaskTest {
    private TaskTest() {
    }

    public static void main(String[] args) {
        promise1NewObject();
        promise2Fact();
        promise2FactStartsAnew();
        promise3Action();
        promise3ActionStartsAnew();
        promise4Link();
        promise4LinkStartsAnew();
        promise4LinkRefuses();
        Due.end();
    }

    private static void promise1NewObject() {
        CutPlanner p = new CutPlanner();
        Due.is("NONE", CutPlanner.NONE, -1);
        Due.is("new: check", p.check(), CutPlanner.NONE);
        Due.is("new: cost", p.cost(), 0);
        Due.is("new: length", p.length(), 0);
        Due.is("new: step(0)", p.step(0), CutPlanner.NONE);
        Due.is("new: states", p.states(), 1);
        Due.is("new: bound", p.bound(false), 0);
        Due.is("new: bound by weights", p.bound(true), 0);
        Due.is("new: cuts", p.cuts(), 0);
        Due.is("new: cut(0)", p.cut(0), 0);
        Due.is("new: plan", p.plan(), 0);
        p.reset();
        p.wipe();
        Due.is("new, reset and wiped: plan", p.plan(), 0);
        Due.refused("new: holds(0)", p, IndexOutOfBoundsException.class, () -> p.holds(0));
        Due.refused("new: applicable(0)", p, IndexOutOfBoundsException.class, () -> p.applicable(0));
        Due.refused("new: draft(0)", p, IndexOutOfBoundsException.class, () -> p.draft(0));
        Due.is("new: first fact", p.fact(false, true), 0);
        Due.is("another new object has no facts: plan", new CutPlanner().plan(), 0);
    }

    private static void promise2Fact() {
        CutPlanner p = new CutPlanner();
        for (int k = 0; k < 10; k++) {
            Due.is("fact number", p.fact(k % 2 == 0, k % 4 == 0), k);
        }
        for (int k = 0; k < 10; k++) {
            Due.is("holds(" + k + ")", p.holds(k), k % 2 == 0);
        }
        Due.is("goal of 0, 4, 8, all true: plan", p.plan(), 0);
        Due.refused("an eleventh fact", p, IllegalStateException.class, () -> p.fact(true, false));
        Due.refused("an eleventh fact, of the goal", p, IllegalStateException.class, () -> p.fact(false, true));
        Due.is("an eleventh fact is not there: plan", p.plan(), 0);
        Due.is("a goal that is not true: plan", Due.withFacts("fg").plan(), CutPlanner.NONE);
        Due.is("neither first nor goal: plan", Due.withFacts("f-").plan(), 0);
    }

    private static void promise2FactStartsAnew() {
        CutPlanner p = movedWithDraft();
        p.fact(true, false);
        Due.is("after a fact: state at hand is the first", p.holds(0), true);
        Due.is("after a fact: the new one is true in it", p.holds(3), true);
        Due.is("after a fact: draft is clear", p.cost(), 0);
        Due.is("after a fact: draft counts anew", p.draft(0), 1);
        Due.is("after a fact: plan found stays", p.length(), 1);
        CutPlanner full = Due.withFacts("f---------");
        Due.newAction(full, 1, "", "", "0");
        full.apply(0);
        full.draft(0);
        Due.refused("an eleventh fact keeps state and draft", full, IllegalStateException.class,
            () -> full.fact(true, true));
        Due.is("after a refused fact: state at hand", full.holds(0), false);
        Due.is("after a refused fact: draft", full.cost(), 1);
    }

    private static void promise3Action() {
        CutPlanner p = new CutPlanner();
        int[] bad = {0, 10, -1, Integer.MIN_VALUE, Integer.MAX_VALUE};
        for (int cost : bad) {
            Due.refused("action(" + cost + ")", p, IllegalArgumentException.class, () -> p.action(cost));
        }
        for (int k = 0; k < 12; k++) {
            Due.is("action number", p.action(1 + k % 9), k);
            p.wipe();
            p.draft(k);
            Due.is("action's cost", p.cost(), 1 + k % 9);
        }
        Due.refused("a 13th action", p, IllegalStateException.class, () -> p.action(9));
        Due.refused("a 13th action, cost 0", p, IllegalArgumentException.class, () -> p.action(0));
        Due.refused("a 13th action, cost 10", p, IllegalArgumentException.class, () -> p.action(10));
        Due.is("a new action needs nothing", p.applicable(11), true);
        Due.is("a new action changes nothing: states", p.states(), 1);
    }

    private static void promise3ActionStartsAnew() {
        CutPlanner p = movedWithDraft();
        Due.refused("action(0) keeps state and draft", p, IllegalArgumentException.class, () -> p.action(0));
        Due.is("after a refused action: state at hand", p.holds(0), false);
        Due.is("after a refused action: draft", p.cost(), 4);
        p.action(1);
        Due.is("after an action: state at hand is the first", p.holds(0), true);
        Due.is("after an action: draft is clear", p.cost(), 0);
        Due.is("after an action: plan found stays", p.length(), 1);
    }

    private static void promise4Link() {
        CutPlanner p = Due.withFacts("f-");
        p.action(1);
        p.link(Due.NEEDS, 0, 1);
        Due.is("needs a false fact: applicable", p.applicable(0), false);
        p.link(Due.ADDS, 0, 1);
        p.action(1);
        p.link(Due.ADDS, 1, 1);
        Due.is("needs nothing: applicable", p.applicable(1), true);
        p.link(Due.DROPS, 1, 0);
        p.apply(1);
        Due.is("adds", p.holds(1), true);
        Due.is("drops", p.holds(0), false);
        p.link(Due.DROPS, 1, 1);
        p.link(Due.NEEDS, 1, 0);
        p.apply(1);
        Due.is("drops and adds: true after", p.holds(1), true);
        p.link(Due.ADDS, 1, 0);
        p.apply(1);
        Due.is("needs, adds and drops: true after", p.holds(0), true);
    }

    private static void promise4LinkStartsAnew() {
        for (int kind = 0; kind < 3; kind++) {
            CutPlanner p = movedWithDraft();
            p.link(kind, 0, 2);
            Due.is("after a link: state at hand is the first", p.holds(0), true);
            Due.is("after a link: draft is clear", p.cost(), 0);
            Due.is("after a link: plan found stays", p.length(), 1);
        }
    }

    private static void promise4LinkRefuses() {
        CutPlanner p = movedWithDraft();
        int[] noFact = {-1, 3, 10, 31, 32, Integer.MIN_VALUE, Integer.MAX_VALUE};
        int[] noAction = {-1, 1, 12, Integer.MIN_VALUE, Integer.MAX_VALUE};
        int[] noKind = {-1, 3, Integer.MIN_VALUE, Integer.MAX_VALUE};
        for (int fact : noFact) {
            Due.refused("link(0, 0, " + fact + ")", p, IndexOutOfBoundsException.class, () -> p.link(0, 0, fact));
            Due.refused("link(3, 0, " + fact + ")", p, IndexOutOfBoundsException.class, () -> p.link(3, 0, fact));
        }
        for (int action : noAction) {
            Due.refused("link(0, " + action + ", 0)", p, IndexOutOfBoundsException.class, () -> p.link(0, action, 0));
            Due.refused("link(-1, " + action + ", 0)", p, IndexOutOfBoundsException.class, () -> p.link(-1, action, 0));
        }
        for (int kind : noKind) {
            Due.refused("link(" + kind + ", 0, 0)", p, IllegalArgumentException.class, () -> p.link(kind, 0, 0));
        }
        Due.refused("link: drops it already", p, IllegalStateException.class, () -> p.link(Due.DROPS, 0, 0));
        Due.is("after refused links: state at hand", p.holds(0), false);
        Due.is("after refused links: draft", p.cost(), 4);
        p.link(Due.NEEDS, 0, 0);
        p.link(Due.ADDS, 0, 0);
        for (int k = 0; k < 3; k++) {
            int kind = k;
            Due.refused("link twice, " + kind, p, IllegalStateException.class, () -> p.link(kind, 0, 0));
        }
        Due.refused("link twice, another kind", p, IllegalArgumentException.class, () -> p.link(3, 0, 0));
    }

    /** Action 0 drops fact 0 and adds the goal 1; it was planned, applied and drafted. */
    private static CutPlanner movedWithDraft() {
        CutPlanner p = Due.withFacts("fg-");
        Due.newAction(p, 4, "", "1", "0");
        p.plan();
        p.apply(0);
        p.draft(0);
        return p;
    }
}
