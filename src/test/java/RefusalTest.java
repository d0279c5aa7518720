/**
 * "A call that throws changes nothing": two objects are given the same calls, but one of them also
 * gets, before each, all calls that must be refused then. Both answer the same ever after.
 */
public final class RefusalTest {
    private static final int RUNS = 150;
    private static final int CALLS = 80;
    private static final String NO_SUCH = "IndexOutOfBoundsException";
    private static final String BAD_VALUE = "IllegalArgumentException";
    private static final String BAD_STATE = "IllegalStateException";

    private final CutPlanner plain = new CutPlanner();
    private final CutPlanner tried = new CutPlanner();
    private final boolean[][][] linked = new boolean[3][12][10];
    private final String name;
    private long seed;
    private int facts = 0;
    private int actions = 0;
    private int drafted = 0;

    private RefusalTest(int run) {
        seed = run * 104729L + 5;
        name = "run " + run + ": ";
    }

    public static void main(String[] args) {
        Due.sentence("A call that throws changes nothing; where several exceptions that a call names fit, the one "
            + "named first is thrown.");
        for (int run = 0; run < RUNS; run++) {
            new RefusalTest(run).go();
        }
        Due.end();
    }

    private int pick(int below) {
        seed = seed * 6364136223846793005L + 1442695040888963407L;
        return (int) ((seed >>> 33) % below);
    }

    private void go() {
        for (int k = pick(3) * 15; k > 0; k--) {
            refuseAll();
            addFactOrAction();
        }
        for (int k = 0; k < CALLS; k++) {
            refuseAll();
            call(k < CALLS / 2 ? pick(12) : 6 + pick(6));
        }
        refuseAll();
        Due.same(name + "all answers", Due.picture(tried), Due.picture(plain));
        tried.reset();
        plain.reset();
        Due.same(name + "all answers after reset", Due.picture(tried), Due.picture(plain));
        Due.is(name + "plan after reset", tried.plan(), plain.plan());
        Due.same(name + "the plan", Due.foundPlan(tried), Due.foundPlan(plain));
    }

    private void call(int which) {
        if (which <= 1) {
            addFactOrAction();
        } else if (which <= 5) {
            addLink();
        } else if (which <= 7) {
            applySome();
        } else if (which <= 9) {
            draftSome();
        } else if (which == 10) {
            Due.is(name + "plan", tried.plan(), plain.plan());
        } else if (pick(8) == 0) {
            plain.wipe();
            tried.wipe();
            drafted = 0;
        } else {
            plain.reset();
            tried.reset();
        }
        Due.is(name + "check", tried.check(), plain.check());
        Due.is(name + "cost", tried.cost(), plain.cost());
        Due.same(name + "plan found", Due.foundPlan(tried), Due.foundPlan(plain));
        Due.same(name + "state", Due.held(tried, facts), Due.held(plain, facts));
    }

    private void addFactOrAction() {
        if (facts < 10 && (actions == 12 || pick(2) == 0)) {
            boolean first = pick(2) == 0;
            boolean goal = pick(3) == 0;
            Due.is(name + "fact", plain.fact(first, goal), facts);
            Due.is(name + "fact", tried.fact(first, goal), facts);
            facts++;
            drafted = 0;
        } else if (actions < 12) {
            int cost = 1 + pick(9);
            Due.is(name + "action", plain.action(cost), actions);
            Due.is(name + "action", tried.action(cost), actions);
            actions++;
            drafted = 0;
        }
    }

    private void addLink() {
        if (facts > 0 && actions > 0) {
            int kind = pick(3);
            int action = pick(actions);
            int fact = pick(facts);
            if (!linked[kind][action][fact]) {
                plain.link(kind, action, fact);
                tried.link(kind, action, fact);
                linked[kind][action][fact] = true;
                drafted = 0;
            }
        }
    }

    private void applySome() {
        if (actions > 0) {
            int action = pick(actions);
            Due.is(name + "applicable", tried.applicable(action), plain.applicable(action));
            if (plain.applicable(action)) {
                Due.is(name + "apply", tried.apply(action), plain.apply(action));
            }
        }
    }

    private void draftSome() {
        for (int k = pick(6); k > 0 && actions > 0 && drafted < 24; k--) {
            int action = pick(actions);
            drafted++;
            Due.is(name + "draft", plain.draft(action), drafted);
            Due.is(name + "draft", tried.draft(action), drafted);
        }
    }

    private void refuseAll() {
        refuseNewOnes();
        refuseFacts(pick(2) == 0 ? facts : -1 - pick(3));
        refuseActions(pick(2) == 0 ? actions : -1 - pick(3));
        refuseFacts(Integer.MAX_VALUE - pick(40));
        refuseActions(Integer.MIN_VALUE + pick(40));
        refuseLinks();
        if (actions > 0) {
            refuseByState(pick(actions));
        }
    }

    private void refuseNewOnes() {
        must(BAD_VALUE, "action(0)", () -> tried.action(0));
        must(BAD_VALUE, "action(10)", () -> tried.action(10));
        if (facts == 10) {
            must(BAD_STATE, "fact, 10 there", () -> tried.fact(true, true));
        }
        if (actions == 12) {
            must(BAD_STATE, "action, 12 there", () -> tried.action(9));
        }
    }

    private void refuseFacts(int bad) {
        must(NO_SUCH, "holds(" + bad + ")", () -> tried.holds(bad));
        must(NO_SUCH, "level(" + bad + ", false)", () -> tried.level(bad, false));
        must(NO_SUCH, "level(" + bad + ", true)", () -> tried.level(bad, true));
        must(NO_SUCH, "landmark(" + bad + ")", () -> tried.landmark(bad));
        must(NO_SUCH, "together(0, " + bad + ")", () -> tried.together(0, bad));
        must(NO_SUCH, "together(" + bad + ", 0)", () -> tried.together(bad, 0));
        must(NO_SUCH, "link(1, 0, " + bad + ")", () -> tried.link(1, 0, bad));
        must(NO_SUCH, "link(3, 0, " + bad + ")", () -> tried.link(3, 0, bad));
    }

    private void refuseActions(int bad) {
        must(NO_SUCH, "applicable(" + bad + ")", () -> tried.applicable(bad));
        must(NO_SUCH, "apply(" + bad + ")", () -> tried.apply(bad));
        must(NO_SUCH, "draft(" + bad + ")", () -> tried.draft(bad));
        must(NO_SUCH, "link(1, " + bad + ", 0)", () -> tried.link(1, bad, 0));
        must(NO_SUCH, "link(-1, " + bad + ", 0)", () -> tried.link(-1, bad, 0));
    }

    private void refuseLinks() {
        if (facts > 0 && actions > 0) {
            int action = pick(actions);
            int fact = pick(facts);
            must(BAD_VALUE, "link, kind 3", () -> tried.link(3, action, fact));
            must(BAD_VALUE, "link, kind -1", () -> tried.link(-1, action, fact));
            for (int k = 0; k < 3; k++) {
                int kind = k;
                if (linked[kind][action][fact]) {
                    must(BAD_STATE, "link, there already", () -> tried.link(kind, action, fact));
                }
            }
        }
    }

    private void refuseByState(int action) {
        if (!plain.applicable(action)) {
            must(BAD_STATE, "apply, not applicable", () -> tried.apply(action));
        }
        if (drafted == 24) {
            must(BAD_STATE, "draft, 24 there", () -> tried.draft(action));
        }
    }

    private void must(String due, String what, Runnable call) {
        String thrown = "nothing";
        try {
            call.run();
        } catch (RuntimeException e) {
            thrown = e.getClass().getSimpleName();
        }
        Due.same(name + what + " throws", thrown, due);
    }
}
