/** Promises 1 to 22: each sentence that names a boundary case, by its words. */
public final class CallEdgeTest {
    private static final int LOW = Integer.MIN_VALUE;
    private static final int HIGH = Integer.MAX_VALUE;

    private CallEdgeTest() {
    }

    public static void main(String[] args) {
        newObject();
        newFact();
        newAction();
        newLink();
        backToFirst();
        whatHolds();
        whatIsApplicable();
        applied();
        noPlan();
        planFound();
        steps();
        countOfStates();
        bothTrue();
        levels();
        bounds();
        cutBound();
        cutSets();
        landmarks();
        drafted();
        wiped();
        checked();
        costOfDraft();
        lastOfManyCalls();
        Due.end();
    }

    private static void newObject() {
        Due.sentence("1: No facts, no actions (so the state at hand is met), an empty draft.");
        CutPlanner p = new CutPlanner();
        Due.refused("holds(0)", p, IndexOutOfBoundsException.class, () -> p.holds(0));
        Due.refused("applicable(0)", p, IndexOutOfBoundsException.class, () -> p.applicable(0));
        Due.is("check: an empty draft is a plan", p.check(), CutPlanner.NONE);
        Due.is("cost", p.cost(), 0);
        Due.is("plan", p.plan(), 0);
        Due.is("states", p.states(), 1);
        Due.is("the first fact", p.fact(false, false), 0);
        Due.is("the first action", p.action(1), 0);
        Due.is("the first of the draft", p.draft(0), 1);
        CutPlanner other = new CutPlanner();
        Due.refused("another object has no facts", other, IndexOutOfBoundsException.class, () -> other.holds(0));
        Due.is("another object has no draft", other.cost(), 0);
    }

    private static void newFact() {
        Due.sentence("2: A new fact, true in the first state or not, in the goal or not; answers its number.");
        CutPlanner p = new CutPlanner();
        Due.is("neither", p.fact(false, false), 0);
        Due.is("first", p.fact(true, false), 1);
        Due.is("both", p.fact(true, true), 2);
        Due.is("the goal is true", p.plan(), 0);
        Due.is("goal", p.fact(false, true), 3);
        Due.same("first state", Due.held(p, 4), "0110");
        Due.is("the goal is not true", p.plan(), CutPlanner.NONE);

        Due.sentence("2: IllegalStateException when there are 10.");
        CutPlanner full = Due.withFacts("f--------");
        Due.is("the tenth", full.fact(false, false), 9);
        Due.newAction(full, 2, "", "9", "0");
        full.apply(0);
        full.draft(0);
        for (int way = 0; way < 4; way++) {
            int kind = way;
            Due.refused("an eleventh", full, IllegalStateException.class,
                () -> full.fact(kind % 2 == 1, kind >= 2));
        }
        Due.is("the eleventh is no goal", full.plan(), 0);
        full.reset();
        Due.same("first state", Due.held(full, 10), "1000000000");
        Due.refused("the eleventh is not there", full, IndexOutOfBoundsException.class, () -> full.holds(10));
    }

    private static void newAction() {
        Due.sentence("3: IllegalArgumentException when cost is not 1 .. 9");
        CutPlanner p = new CutPlanner();
        for (int cost : new int[] {0, 10, -1, 11, -9, LOW, LOW + 1, HIGH}) {
            Due.refused("action(" + cost + ")", p, IllegalArgumentException.class, () -> p.action(cost));
        }
        Due.is("action(1)", p.action(1), 0);
        Due.is("action(9)", p.action(9), 1);

        Due.sentence("3: IllegalStateException when there are 12.");
        for (int k = 2; k < 12; k++) {
            Due.is("action", p.action(5), k);
        }
        for (int cost : new int[] {1, 5, 9}) {
            Due.refused("a 13th", p, IllegalStateException.class, () -> p.action(cost));
        }
        Due.refused("the 13th is not there", p, IndexOutOfBoundsException.class, () -> p.applicable(12));

        Due.sentence("where several exceptions that a call names fit, the one named first is thrown (action)");
        for (int cost : new int[] {0, 10, LOW, HIGH}) {
            Due.refused("a 13th of cost " + cost, p, IllegalArgumentException.class, () -> p.action(cost));
        }
    }

    private static void newLink() {
        CutPlanner p = Due.withFacts("f-g");
        Due.newAction(p, 1, "0", "", "");
        Due.newAction(p, 1, "", "", "");
        p.apply(1);
        p.draft(1);
        Due.sentence("4: IndexOutOfBoundsException when there is no such action or fact");
        for (int bad : new int[] {-1, 3, 9, 10, 31, 32, 33, LOW, HIGH}) {
            Due.refused("link(0, 0, " + bad + ")", p, IndexOutOfBoundsException.class, () -> p.link(0, 0, bad));
        }
        for (int bad : new int[] {-1, 2, 11, 12, 32, LOW, HIGH}) {
            Due.refused("link(0, " + bad + ", 0)", p, IndexOutOfBoundsException.class, () -> p.link(0, bad, 0));
        }
        Due.sentence("4: IllegalArgumentException when kind is another one");
        for (int kind : new int[] {-1, 3, 4, LOW, HIGH}) {
            Due.refused("link(" + kind + ", 1, 1)", p, IllegalArgumentException.class, () -> p.link(kind, 1, 1));
        }
        Due.sentence("where several exceptions that a call names fit, the one named first is thrown (link)");
        for (int kind : new int[] {-1, 3, LOW, HIGH}) {
            Due.refused("no action, no kind", p, IndexOutOfBoundsException.class, () -> p.link(kind, 2, 0));
            Due.refused("no fact, no kind", p, IndexOutOfBoundsException.class, () -> p.link(kind, 0, 3));
            Due.refused("nothing of all", p, IndexOutOfBoundsException.class, () -> p.link(kind, -1, -1));
        }
        Due.sentence("4: IllegalStateException when it does already.");
        Due.refused("needs it already", p, IllegalStateException.class, () -> p.link(Due.NEEDS, 0, 0));
        Due.is("the draft stays", p.cost(), 1);
        p.link(Due.ADDS, 0, 0);
        p.link(Due.DROPS, 0, 0);
        p.link(Due.NEEDS, 0, 1);
        p.link(Due.NEEDS, 1, 0);
        for (int k = 0; k < 3; k++) {
            int kind = k;
            Due.refused("twice, kind " + kind, p, IllegalStateException.class, () -> p.link(kind, 0, 0));
        }
        Due.refused("twice, another fact", p, IllegalStateException.class, () -> p.link(Due.NEEDS, 0, 1));
        Due.refused("twice, another action", p, IllegalStateException.class, () -> p.link(Due.NEEDS, 1, 0));
        everyLink();
    }

    private static void everyLink() {
        Due.sentence("4: An action needs (kind 0), adds (1) or drops (2) a fact from now on.");
        CutPlanner p = Due.withFacts("ffffffffff");
        for (int action = 0; action < 12; action++) {
            p.action(1);
        }
        for (int n = 0; n < 360; n++) {
            p.link(n % 3, n / 30, n / 3 % 10);
        }
        Due.is("all links: states", p.states(), 1);
        Due.refused("the last one twice", p, IllegalStateException.class, () -> p.link(2, 11, 9));
    }

    private static void backToFirst() {
        Due.sentence("5: The state at hand becomes the first one (draft and plan stay).");
        CutPlanner p = chain();
        p.reset();
        Due.same("it is the first one already", Due.held(p, 3), "100");
        p.plan();
        p.draft(0);
        p.draft(1);
        p.apply(0);
        p.reset();
        Due.same("state", Due.held(p, 3), "100");
        Due.is("draft's cost", p.cost(), 5);
        Due.is("draft", p.check(), CutPlanner.NONE);
        Due.same("plan", Due.foundPlan(p), "0 1 ");
        CutPlanner empty = new CutPlanner();
        empty.reset();
        Due.is("no facts", empty.check(), CutPlanner.NONE);
    }

    private static void whatHolds() {
        Due.sentence("6: IndexOutOfBoundsException when there is no such fact.");
        CutPlanner p = chain();
        for (int bad : new int[] {-1, 3, 9, 10, 31, 32, 33, 64, LOW, HIGH}) {
            Due.refused("holds(" + bad + ")", p, IndexOutOfBoundsException.class, () -> p.holds(bad));
        }
        p.fact(true, false);
        Due.is("now there is", p.holds(3), true);
    }

    private static void whatIsApplicable() {
        Due.sentence("7: IndexOutOfBoundsException when there is no such action.");
        CutPlanner p = chain();
        for (int bad : new int[] {-1, 2, 11, 12, 32, LOW, HIGH}) {
            Due.refused("applicable(" + bad + ")", p, IndexOutOfBoundsException.class, () -> p.applicable(bad));
        }
        p.action(1);
        Due.is("now there is", p.applicable(2), true);
    }

    private static void applied() {
        Due.sentence("8: answers whether it is met then");
        CutPlanner p = chain();
        Due.is("not met", p.apply(0), false);
        Due.is("met", p.apply(1), true);
        CutPlanner lost = Due.withFacts("b");
        Due.newAction(lost, 1, "0", "", "0");
        Due.is("met before, not after", lost.apply(0), false);
        CutPlanner noGoal = new CutPlanner();
        noGoal.action(1);
        Due.is("no goal", noGoal.apply(0), true);

        Due.sentence("8: IndexOutOfBoundsException when there is no such action");
        for (int bad : new int[] {-1, 1, 11, 12, 32, LOW, HIGH}) {
            Due.refused("apply(" + bad + ")", lost, IndexOutOfBoundsException.class, () -> lost.apply(bad));
        }
        Due.sentence("8: IllegalStateException when it is not applicable.");
        Due.refused("apply(0)", lost, IllegalStateException.class, () -> lost.apply(0));
        lost.reset();
        Due.is("applicable again", lost.apply(0), false);
    }

    private static void noPlan() {
        Due.sentence("9: The cost of the best plan; NONE when there is no plan.");
        Due.is("no actions", Due.withFacts("g").plan(), CutPlanner.NONE);
        CutPlanner p = Due.withFacts("gg");
        Due.newAction(p, 1, "", "0", "1");
        Due.newAction(p, 1, "", "1", "0");
        Due.is("never both at once", p.plan(), CutPlanner.NONE);
        Due.is("though the bound is a number", p.bound(false), 1);

        Due.sentence("9: The plan that length and step tell is this one from now on (none, when there is no plan).");
        CutPlanner q = chain();
        q.plan();
        Due.same("found", Due.foundPlan(q), "0 1 ");
        Due.newAction(q, 1, "", "", "0");
        q.apply(2);
        Due.is("lost", q.plan(), CutPlanner.NONE);
        Due.is("none: length", q.length(), 0);
        Due.is("none: step(0)", q.step(0), CutPlanner.NONE);
        q.reset();
        q.plan();
        Due.same("found again", Due.foundPlan(q), "0 1 ");
    }

    private static void planFound() {
        Due.sentence("10: How many actions the plan has that was found last (0 when there was none).");
        CutPlanner p = chain();
        Due.is("no call of plan yet", p.length(), 0);
        p.plan();
        Due.is("two", p.length(), 2);
        p.apply(0);
        p.plan();
        Due.is("one", p.length(), 1);
        p.apply(1);
        p.plan();
        Due.is("met: none needed", p.length(), 0);
        Due.is("step(0)", p.step(0), CutPlanner.NONE);
    }

    private static void steps() {
        Due.sentence("11: (as it was found, whatever was applied or added since); NONE when it has none such.");
        CutPlanner p = chain();
        Due.is("no call of plan yet", p.step(0), CutPlanner.NONE);
        p.plan();
        p.apply(0);
        Due.same("applied since", Due.foundPlan(p), "0 1 ");
        p.fact(false, true);
        Due.same("a fact added since", Due.foundPlan(p), "0 1 ");
        p.action(1);
        Due.same("an action added since", Due.foundPlan(p), "0 1 ");
        p.link(Due.ADDS, 2, 2);
        Due.same("a link added since", Due.foundPlan(p), "0 1 ");
        p.draft(2);
        p.wipe();
        p.reset();
        p.states();
        p.cuts();
        p.together(0, 1);
        Due.same("other calls since", Due.foundPlan(p), "0 1 ");
        for (int k : new int[] {-1, -2, 2, 3, 1022, 1023, 1024, LOW, HIGH}) {
            Due.is("step(" + k + ")", p.step(k), CutPlanner.NONE);
        }
    }

    private static void countOfStates() {
        Due.sentence("12: How many states come from the state at hand (itself, too).");
        Due.is("no facts", new CutPlanner().states(), 1);
        Due.is("no actions", Due.withFacts("f-").states(), 1);
        CutPlanner p = Due.withFacts("----------");
        for (int k = 0; k < 10; k++) {
            Due.newAction(p, 9 - k % 9, "", "" + k, "");
        }
        Due.is("all states", p.states(), 1024);
        for (int k = 0; k < 10; k++) {
            p.apply(k);
            Due.is("half of them", p.states(), 512 >> k);
        }
        Due.newAction(p, 1, "0123456789", "", "0123456789");
        for (int k = 0; k < 10; k++) {
            p.apply(k);
        }
        Due.is("the last one leads back to the first", p.states(), 1024);
    }

    private static void bothTrue() {
        Due.sentence("13: Whether in some state that comes from the state at hand two facts are true.");
        CutPlanner p = Due.withFacts("f--");
        Due.newAction(p, 9, "0", "1", "0");
        Due.newAction(p, 9, "1", "02", "1");
        Due.is("a true fact with itself", p.together(0, 0), true);
        Due.is("a fact with itself, later", p.together(2, 2), true);
        Due.is("never at once", p.together(0, 1), false);
        Due.is("in the last state alone", p.together(2, 1), true);
        p.apply(0);
        p.apply(1);
        p.states();
        p.fact(false, false);
        Due.newAction(p, 9, "0", "3", "012");
        Due.is("still to come", p.together(1, 2), true);
        p.apply(2);
        Due.is("from the state at hand: itself", p.together(3, 3), true);
        Due.is("from the state at hand: no more", p.together(0, 0), false);
        Due.is("from the state at hand: nor the next", p.together(1, 1), false);
        Due.is("from the state at hand: no more at once", p.together(1, 2), false);
        CutPlanner never = Due.withFacts("f-");
        Due.is("never true", never.together(1, 1), false);
        Due.is("one is never true", never.together(0, 1), false);

        Due.sentence("13: IndexOutOfBoundsException when there are no such facts.");
        for (int bad : new int[] {-1, 4, 9, 10, 31, 32, LOW, HIGH}) {
            Due.refused("together(0, " + bad + ")", p, IndexOutOfBoundsException.class, () -> p.together(0, bad));
            Due.refused("together(" + bad + ", 0)", p, IndexOutOfBoundsException.class, () -> p.together(bad, 0));
            Due.refused("both " + bad, p, IndexOutOfBoundsException.class, () -> p.together(bad, bad));
        }
    }

    private static void levels() {
        Due.sentence("14: The level of a fact (its weight, when weight); NONE for that.");
        CutPlanner p = Due.withFacts("f----");
        Due.newAction(p, 1, "", "1", "");
        Due.newAction(p, 1, "", "2", "");
        Due.newAction(p, 1, "12", "3", "");
        Due.same("levels", Due.heights(p, 5, false), "0 1 1 2 -1");
        Due.same("weights", Due.heights(p, 5, true), "0 1 1 3 -1");

        Due.sentence("14: IndexOutOfBoundsException when there is no such fact.");
        for (int bad : new int[] {-1, 5, 9, 10, 31, 32, LOW, HIGH}) {
            Due.refused("level(" + bad + ")", p, IndexOutOfBoundsException.class, () -> p.level(bad, false));
            Due.refused("weight(" + bad + ")", p, IndexOutOfBoundsException.class, () -> p.level(bad, true));
        }
    }

    private static void bounds() {
        Due.sentence("15: NONE when some fact of it has none.");
        CutPlanner p = Due.withFacts("bg");
        Due.is("one of two", p.bound(false), CutPlanner.NONE);
        Due.is("one of two, weights", p.bound(true), CutPlanner.NONE);
        Due.newAction(p, 9, "", "1", "");
        Due.is("none of two", p.bound(false), 9);
        Due.is("none of two, weights", p.bound(true), 9);
        p.apply(0);
        Due.is("met", p.bound(false), 0);
        Due.is("met, weights", p.bound(true), 0);
    }

    private static void cutBound() {
        Due.sentence("16: The cut bound of the state at hand (0 without cuts); NONE for that.");
        Due.is("no facts", new CutPlanner().cuts(), 0);
        Due.is("met", Due.withFacts("b").cuts(), 0);
        Due.is("no goal", Due.withFacts("-").cuts(), 0);
        Due.is("no way", Due.withFacts("g").cuts(), CutPlanner.NONE);
        CutPlanner p = chain();
        Due.is("two cuts", p.cuts(), 5);
        p.apply(0);
        Due.is("of the state at hand", p.cuts(), 3);
    }

    private static void cutSets() {
        Due.sentence("17: as the sum of 2^action; 0 when there is no such cut.");
        CutPlanner p = chain();
        Due.is("cut(0)", p.cut(0), 2);
        Due.is("cut(1)", p.cut(1), 1);
        for (int k : new int[] {-1, -2, 2, 3, 11, 12, 13, 1024, LOW, HIGH}) {
            Due.is("cut(" + k + ")", p.cut(k), 0);
        }
        p.apply(0);
        Due.is("of the state at hand: cut(0)", p.cut(0), 2);
        Due.is("of the state at hand: cut(1)", p.cut(1), 0);
        p.apply(1);
        Due.is("met: cut(0)", p.cut(0), 0);
        Due.is("no way: cut(0)", Due.withFacts("g").cut(0), 0);
        Due.is("no facts: cut(0)", new CutPlanner().cut(0), 0);
    }

    private static void landmarks() {
        Due.sentence("18: IndexOutOfBoundsException when there is no such fact.");
        CutPlanner p = chain();
        for (int bad : new int[] {-1, 3, 9, 10, 31, 32, LOW, HIGH}) {
            Due.refused("landmark(" + bad + ")", p, IndexOutOfBoundsException.class, () -> p.landmark(bad));
        }
        Due.is("the last fact", p.landmark(2), true);
    }

    private static void drafted() {
        Due.sentence("19: Appends an action (applicable or not) to the draft; answers how many it has then.");
        CutPlanner p = chain();
        Due.is("not applicable", p.draft(1), 1);
        Due.is("applicable", p.draft(0), 2);
        Due.is("the same again", p.draft(0), 3);

        Due.sentence("19: IndexOutOfBoundsException when there is no such action");
        for (int bad : new int[] {-1, 2, 11, 12, 32, LOW, HIGH}) {
            Due.refused("draft(" + bad + ")", p, IndexOutOfBoundsException.class, () -> p.draft(bad));
        }
        Due.sentence("19: IllegalStateException when there are 24.");
        for (int k = 4; k <= 24; k++) {
            Due.is("draft", p.draft(0), k);
        }
        Due.refused("a 25th", p, IllegalStateException.class, () -> p.draft(1));
        Due.is("it has 24 as before", p.cost(), 3 + 23 * 2);

        Due.sentence("where several exceptions that a call names fit, the one named first is thrown (draft)");
        for (int bad : new int[] {-1, 2, LOW, HIGH}) {
            Due.refused("a 25th that is none", p, IndexOutOfBoundsException.class, () -> p.draft(bad));
        }
        p.wipe();
        Due.is("wiped: there is room", p.draft(1), 1);
    }

    private static void wiped() {
        Due.sentence("20: Empties the draft.");
        CutPlanner p = chain();
        p.wipe();
        Due.is("empty already", p.cost(), 0);
        p.plan();
        p.apply(0);
        for (int k = 0; k < 24; k++) {
            p.draft(0);
        }
        p.wipe();
        Due.is("full before: cost", p.cost(), 0);
        Due.is("full before: check", p.check(), 0);
        Due.same("the state at hand stays", Due.held(p, 3), "010");
        Due.same("the plan stays", Due.foundPlan(p), "0 1 ");
        Due.is("the next is the first", p.draft(1), 1);
        Due.is("a plan", p.check(), CutPlanner.NONE);
    }

    private static void checked() {
        Due.sentence("21: Goes over the draft from the state at hand on, which it leaves: NONE when it is a plan");
        CutPlanner p = chain();
        p.draft(0);
        p.draft(1);
        Due.is("a plan", p.check(), CutPlanner.NONE);
        Due.is("a plan still", p.check(), CutPlanner.NONE);
        Due.same("the state at hand stays", Due.held(p, 3), "100");
        Due.is("an empty one, met", Due.withFacts("b").check(), CutPlanner.NONE);

        Due.sentence("21: otherwise the place of its first action that is not applicable");
        p.draft(1);
        p.draft(1);
        Due.is("place 2 of 0 to 3", p.check(), 2);
        p.apply(0);
        Due.is("place 0", p.check(), 0);

        Due.sentence("21: or how many actions it has, when all are but the state to which they lead is not met");
        CutPlanner q = chain();
        Due.is("an empty one, not met", q.check(), 0);
        q.draft(0);
        Due.is("one", q.check(), 1);
        CutPlanner through = Due.withFacts("g");
        Due.newAction(through, 1, "", "0", "");
        Due.newAction(through, 1, "0", "", "0");
        for (int k = 0; k < 24; k++) {
            through.draft(k % 2);
        }
        Due.is("a full one, met on the way alone", through.check(), 24);
    }

    private static void costOfDraft() {
        Due.sentence("22: The cost of the draft's actions together.");
        CutPlanner p = chain();
        Due.is("empty", p.cost(), 0);
        p.draft(1);
        Due.is("not applicable", p.cost(), 3);
        p.draft(1);
        Due.is("twice the same", p.cost(), 6);
        CutPlanner dear = new CutPlanner();
        dear.action(9);
        for (int k = 0; k < 24; k++) {
            dear.draft(0);
        }
        Due.is("the dearest", dear.cost(), 216);
    }

    /** The longest plan there can be is found, and told, after as many calls as there may be. */
    private static void lastOfManyCalls() {
        Due.sentence("An object is used for at most 512 calls after it has been made");
        CutPlanner p = new CutPlanner();
        int calls = 0;
        for (int k = 0; k < 10; k++) {
            p.fact(false, true);
            p.action(9);
            calls += 2;
        }
        for (int k = 0; k < 10; k++) {
            p.link(Due.ADDS, k, k);
            calls++;
            for (int lower = 0; lower < k; lower++) {
                p.link(Due.NEEDS, k, lower);
                p.link(Due.DROPS, k, lower);
                calls += 2;
            }
        }
        for (; calls < 509; calls++) {
            Due.is("plan", p.plan(), 9 * 1023);
        }
        Due.is("call 510: states", p.states(), 1024);
        Due.is("call 511: length", p.length(), 1023);
        Due.is("call 512: step", p.step(1022), 0);
    }

    /** Fact 0 is true; action 0 (2) makes 1 of 0, action 1 (3) the goal 2 of 1. */
    private static CutPlanner chain() {
        CutPlanner p = Due.withFacts("f-g");
        Due.newAction(p, 2, "0", "1", "0");
        Due.newAction(p, 3, "1", "2", "1");
        return p;
    }
}
